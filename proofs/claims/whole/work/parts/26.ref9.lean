/-! ===== the reference: works, nothingOf ===== -/
theorem ax_ldf_lt {h f p hp : Nat} : ∀ {n : Nat} {L K : ax_L}, ax_ldf h f p hp n L = some (true, K) → f < hp
  | 0, _, _, e => by cases e
  | n + 1, L, K, e => by
    cases hb : ax_lst (L h) p f (hp - f) with
    | none =>
      have e2 : some (false, L) = some (true, K) := by rw [← e]; show _ = (match ax_lst (L h) p f (hp - f) with | none => _ | some b => _); rw [hb]
      cases e2
    | some b => have := ax_lst_lt hb; omega
def ax_t0 (t : Nat) : Nat → ax_L → ax_L
  | 0, L => L
  | n + 1, L => ax_u (ax_t0 t n L) t n 0
/-- a row of the heap, with a sign, becomes a row that leads, the first so many places -/
def ax_w6 (t p h f : Nat) (sg : Int64) : Nat → ax_L → ax_L
  | 0, L => L
  | n + 1, L => ax_u (ax_w6 t p h f sg n L) t (6 * p + n) (sg * ax_w6 t p h f sg n L h (6 * f + n))
def ax_sg (v : Int64) : Int64 := if v < 0 then -1 else 1
/-- the places one after the other, the first so many: how many rows lead, and the memory -/
def ax_wk (h t hp fu : Nat) : Nat → ax_L → Option (Nat × ax_L)
  | 0, L => some (0, L)
  | n + 1, L => (ax_wk h t hp fu n L).bind fun q => (ax_ldf h q.1 n hp fu q.2).map fun r => bif r.1 then (q.1 + 1, ax_w6 t n h q.1 (ax_sg (r.2 h (6 * q.1 + n))) 6 r.2) else (q.1, r.2)
theorem ax_wk_le {h t hp fu : Nat} {L : ax_L} : ∀ {n : Nat} {q : Nat × ax_L}, ax_wk h t hp fu n L = some q → q.1 ≤ n ∧ q.1 ≤ hp
  | 0, q, e => by cases e; exact ⟨Nat.le_refl _, Nat.zero_le _⟩
  | n + 1, q, e => by
    obtain ⟨z, hz, e2⟩ := Option.bind_eq_some_iff.mp e
    obtain ⟨r, hr, e3⟩ := Option.map_eq_some_iff.mp e2
    have ih := ax_wk_le hz
    obtain ⟨b, K⟩ := r
    cases b with
    | true => have := ax_ldf_lt hr; subst e3; exact ⟨by show z.1 + 1 ≤ _; omega, by show z.1 + 1 ≤ _; omega⟩
    | false => subst e3; exact ⟨by show z.1 ≤ _; omega, ih.2⟩
theorem ax_wk_pre {h t hp fu : Nat} {L : ax_L} : ∀ {n : Nat} {q : Nat × ax_L}, ax_wk h t hp fu n L = some q → ∀ k, k ≤ n → ∃ z, ax_wk h t hp fu k L = some z
  | 0, q, e, k, hk => by rw [Nat.le_zero.mp hk]; exact ⟨q, e⟩
  | n + 1, q, e, k, hk => by
    rcases Nat.eq_or_lt_of_le hk with h1 | h1
    · subst h1; exact ⟨q, e⟩
    · obtain ⟨z, hz, -⟩ := Option.bind_eq_some_iff.mp e
      exact ax_wk_pre hz k (by omega)
/-- row p less what the rows behind it lead, the first so many -/
def ax_br (t p : Nat) : Nat → ax_L → ax_L
  | 0, L => L
  | n + 1, L => if ax_br t p n L t (7 * (p + 1 + n)) = 0 then ax_br t p n L else ax_ta t p t (p + 1 + n) (ax_fdiv (ax_br t p n L t (6 * p + (p + 1 + n))) (ax_br t p n L t (7 * (p + 1 + n)))) 6 (ax_br t p n L)
/-- the rows from the last on, the first so many -/
def ax_bk (t wd : Nat) : Nat → ax_L → ax_L
  | 0, L => L
  | n + 1, L => ax_br t (wd - 1 - n) n (ax_bk t wd n L)
set_option maxRecDepth 20000 in
/-- works(width, to) -/
theorem k_X11_works (l : Launch) (D : va_G) (T : Nat → ClassId) (o d : Nat) (G : ax_G) (I : ax_I) (L : ax_L) (m wd t h fu z : Nat) (Y : ax_L) (hM : ax_Mod G m) (hh : I m 6 = nI h) (hh2 : h ≤ 16) (ht : ax_La G t 36) (htn : t ≠ m + 4) (hw : wd ≤ 6) (hY : ax_wk (m + 4) t h fu wd (ax_t0 t 36 L) = some (z, Y)) (hd : 3 ≤ d) : ax_Con l D T o yX11_works cX11_works 8 none d 0 0 [.ref m, .int (nI wd), .ref t] G I L (fun v G' I' L' => v = none ∧ G = G' ∧ I = I' ∧ ax_bk t wd wd Y = L') := by
  refine ax_enter (by decide +kernel) (Nat.le_of_ble_eq_true rfl) ?_
  intro p_ e_ s_ m_ args_ below_ meth_ c_ C _
  refine x_lvs (lv' := [(0, .ref m), (1, .int (nI wd)), (2, .ref t)]) rfl ?_
  have hl3 : ∀ (n_ j : Nat), j + n_ = wd → ax_XM p_ l e_ s_ m_ args_ below_ meth_ c_ 8 D T o d 0 0 G (fun v G' I' L' => v = none ∧ G = G' ∧ I = I' ∧ ax_bk t wd wd Y = L') G I (ax_bk t wd j Y) 123 [(4, .int (nI (wd - j) - nI 1)), (0, .ref m), (1, .int (nI wd)), (2, .ref t)] [] := by
    intro n_
    induction n_ with
    | zero =>
      intro j hj
      rw [show j = wd by omega, Nat.sub_self]
      refine x_iload C (dk ddX11_works 70 rfl) rfl ?_
      refine x_if_lt C (tgt := 194) (dk ddX11_works 71 rfl) (by decide) (fun h125 => ?_) (fun h125 => ?_)
      · have h125c := Int32.not_le.mpr h125
        exact x_vret C rfl ⟨rfl, rfl, rfl, rfl⟩ rfl rfl (dk ddX11_works_p1 10 rfl)
      · have h125c := Int32.not_lt.mp h125
        exfalso
        exact h125 (by decide)
    | succ n_ ih_ =>
      intro j hj
      rw [show nI (wd - j) - nI 1 = nI (wd - 1 - j) from (by rw [pk_sub (b := 1) (by omega), show wd - j - 1 = wd - 1 - j by omega])]
      refine x_iload C (dk ddX11_works 70 rfl) rfl ?_
      refine x_if_lt_n C (tgt := 194) (dk ddX11_works 71 rfl) (by decide) (by omega) (fun h125 => ?_) (fun h125 => ?_)
      · exfalso
        omega
      · refine x_iload C (dk ddX11_works 72 rfl) rfl ?_
        refine x_iconst C (v := nI 1) (dk ddX11_works 73 rfl) (by decide) ?_
        refine x_iadd_n C (dk ddX11_works 74 rfl) ?_
        refine x_istore C (lv' := [(5, .int (nI (wd - 1 - j + 1))), (4, .int (nI (wd - 1 - j))), (0, .ref m), (1, .int (nI wd)), (2, .ref t)]) (dk ddX11_works 75 rfl) (by decide) rfl ?_
        have hin : ∀ (nq_ q : Nat), q + nq_ = j → ax_XM p_ l e_ s_ m_ args_ below_ meth_ c_ 8 D T o d 0 0 G (fun v G' I' L' => v = none ∧ G = G' ∧ I = I' ∧ ax_bk t wd wd Y = L') G I (ax_br t (wd - 1 - j) q (ax_bk t wd j Y)) 134 [(5, .int (nI (wd - 1 - j + 1 + q))), (4, .int (nI (wd - 1 - j))), (0, .ref m), (1, .int (nI wd)), (2, .ref t)] [] := by
          intro nq_
          induction nq_ with
          | zero =>
            intro q hkq_
            rw [show q = j by omega]
            refine x_iload C (dk ddX11_works 76 rfl) rfl ?_
            refine x_iload_n C (dk ddX11_works 77 rfl) rfl ?_
            refine x_icmp_ge_n C (tgt := 188) (dk ddX11_works 78 rfl) (by decide) (by omega) (by omega) (fun h137 => ?_) (fun h137 => ?_)
            · refine x_iinc C (v := (nI (wd - 1 - j)) + (-1)) (lv' := [(4, .int ((nI (wd - 1 - j)) + (-1))), (5, .int (nI (wd - 1 - j + 1 + j))), (0, .ref m), (1, .int (nI wd)), (2, .ref t)]) (dk ddX11_works_p1 8 rfl) rfl (by first | rfl | decide) (by decide) rfl ?_
              refine x_goto C (tgt := 123) (dk ddX11_works_p1 9 rfl) (by decide) ?_
              rw [show nI (wd - 1 - j) + (-1) = nI (wd - (j + 1)) - nI 1 from by rw [show wd - (j + 1) = wd - 1 - j by omega, Int32.sub_eq_add_neg]; rfl]
              refine x_sub [0, 2, 3, 4] (lv' := [(4, .int (nI (wd - (j + 1)) - nI 1)), (0, .ref m), (1, .int (nI wd)), (2, .ref t)]) rfl ?_
              exact ih_ (j + 1) (by omega)
            · exfalso
              omega
          | succ nq_ ihq_ =>
            intro q hkq_
            refine x_iload C (dk ddX11_works 76 rfl) rfl ?_
            refine x_iload_n C (dk ddX11_works 77 rfl) rfl ?_
            refine x_icmp_ge_n C (tgt := 188) (dk ddX11_works 78 rfl) (by decide) (by omega) (by omega) (fun h137 => ?_) (fun h137 => ?_)
            · exfalso
              omega
            · refine x_aload_n C (dk ddX11_works 79 rfl) rfl ?_
              refine x_bipush C (v := nI 7) (dk ddX11_works 80 rfl) (by decide) ?_
              refine x_iload C (dk ddX11_works 81 rfl) rfl ?_
              refine x_imul_n C (dk ddX11_works 82 rfl) ?_
              refine x_lald_n C ht.1 ht.2.1 ht.2.2 (by omega) (by decide) (dk ddX11_works 83 rfl) ?_
              refine x_lconst C (v := 0) (dk ddX11_works 84 rfl) (by decide) ?_
              refine x_lc_eq C (tgt := 182) (dk ddX11_works 85 rfl) (dk ddX11_works 86 rfl) (by decide) (fun h148 => ?_) (fun h148 => ?_)
              · refine x_iinc C (v := nI (wd - 1 - j + 1 + q + 1)) (lv' := [(5, .int (nI (wd - 1 - j + 1 + q + 1))), (4, .int (nI (wd - 1 - j))), (0, .ref m), (1, .int (nI wd)), (2, .ref t)]) (dk ddX11_works_p1 6 rfl) rfl (nI_add (wd - 1 - j + 1 + q) 1) (by decide) rfl ?_
                refine x_goto C (tgt := 134) (dk ddX11_works_p1 7 rfl) (by decide) ?_
                refine x_sub [0, 1, 2, 3, 4] (lv' := [(5, .int (nI (wd - 1 - j + 1 + (q + 1)))), (4, .int (nI (wd - 1 - j))), (0, .ref m), (1, .int (nI wd)), (2, .ref t)]) rfl ?_
                have e_ : ax_br t (wd - 1 - j) (q + 1) (ax_bk t wd j Y) = ax_br t (wd - 1 - j) q (ax_bk t wd j Y) := by show (if _ then _ else _ : ax_L) = _; rw [if_pos h148]
                have h_ := ihq_ (q + 1) (by omega)
                rw [e_] at h_
                exact h_
              · refine x_aload_n C (dk ddX11_works 87 rfl) rfl ?_
                refine x_aload_n C (dk ddX11_works 88 rfl) rfl ?_
                refine x_iload C (dk ddX11_works 89 rfl) rfl ?_
                refine x_aload_n C (dk ddX11_works 90 rfl) rfl ?_
                refine x_iload C (dk ddX11_works 91 rfl) rfl ?_
                refine x_aload_n C (dk ddX11_works 92 rfl) rfl ?_
                refine x_bipush C (v := nI 6) (dk ddX11_works 93 rfl) (by decide) ?_
                refine x_iload C (dk ddX11_works 94 rfl) rfl ?_
                refine x_imul_n C (dk ddX11_works 95 rfl) ?_
                refine x_iload C (dk ddX11_works 96 rfl) rfl ?_
                refine x_iadd_n C (dk ddX11_works 97 rfl) ?_
                refine x_lald_n C ht.1 ht.2.1 ht.2.2 (by omega) (by decide) (dk ddX11_works 98 rfl) ?_
                refine x_aload_n C (dk ddX11_works 99 rfl) rfl ?_
                refine x_bipush C (v := nI 7) (dk ddX11_works_p1 0 rfl) (by decide) ?_
                refine x_iload C (dk ddX11_works_p1 1 rfl) rfl ?_
                refine x_imul_n C (dk ddX11_works_p1 2 rfl) ?_
                refine x_lald_n C ht.1 ht.2.1 ht.2.2 (by omega) (by decide) (dk ddX11_works_p1 3 rfl) ?_
                refine x_callS C (As := [.long ((ax_br t (wd - 1 - j) q (ax_bk t wd j Y)) t (6 * (wd - 1 - j) + (wd - 1 - j + 1 + q))), .long ((ax_br t (wd - 1 - j) q (ax_bk t wd j Y)) t (7 * (wd - 1 - j + 1 + q)))]) (k_X11_floored l D T o (d - 1) G I (ax_br t (wd - 1 - j) q (ax_bk t wd j Y)) ((ax_br t (wd - 1 - j) q (ax_bk t wd j Y)) t (6 * (wd - 1 - j) + (wd - 1 - j + 1 + q))) ((ax_br t (wd - 1 - j) q (ax_bk t wd j Y)) t (7 * (wd - 1 - j + 1 + q))) h148) mlX11_158 ⟨by show d - 1 + 1 ≤ d; omega, by show 40 * (d - 1 + 1) ≤ 40 * d; omega⟩ ⟨Nat.le_refl _, Nat.le_refl _⟩ rfl (Nat.le_of_ble_eq_true rfl) (dk ddX11_works_p1 4 rfl) ?_
                rintro v_ G_ I_ L_ ⟨rfl, rfl, rfl, rfl⟩
                refine x_callV C (ci := 11) (As := [.ref t, .int (nI (wd - 1 - j)), .ref t, .int (nI (wd - 1 - j + 1 + q)), .long (ax_fdiv ((ax_br t (wd - 1 - j) q (ax_bk t wd j Y)) t (6 * (wd - 1 - j) + (wd - 1 - j + 1 + q))) ((ax_br t (wd - 1 - j) q (ax_bk t wd j Y)) t (7 * (wd - 1 - j + 1 + q))))]) (k_X11_takesAway l D T o (d - 1) G I (ax_br t (wd - 1 - j) q (ax_bk t wd j Y)) m t (wd - 1 - j) t (wd - 1 - j + 1 + q) 36 36 (ax_fdiv ((ax_br t (wd - 1 - j) q (ax_bk t wd j Y)) t (6 * (wd - 1 - j) + (wd - 1 - j + 1 + q))) ((ax_br t (wd - 1 - j) q (ax_bk t wd j Y)) t (7 * (wd - 1 - j + 1 + q)))) ⟨ht.1, ht.2.1, ht.2.2⟩ ⟨ht.1, ht.2.1, ht.2.2⟩ (by omega) (by omega) (by decide) (by decide)) mlX11_148 rfl rfl (hM.lt (j := 0) (by decide)) hM.2.1 ⟨by show d - 1 + 1 ≤ d; omega, by show 40 * (d - 1 + 1) ≤ 40 * d; omega⟩ ⟨Nat.le_refl _, Nat.le_refl _⟩ rfl (Nat.le_of_ble_eq_true rfl) (dk ddX11_works_p1 5 rfl) ?_
                rintro v_ G_ I_ L_ ⟨rfl, rfl, rfl, rfl⟩
                refine x_iinc C (v := nI (wd - 1 - j + 1 + q + 1)) (lv' := [(5, .int (nI (wd - 1 - j + 1 + q + 1))), (4, .int (nI (wd - 1 - j))), (0, .ref m), (1, .int (nI wd)), (2, .ref t)]) (dk ddX11_works_p1 6 rfl) rfl (nI_add (wd - 1 - j + 1 + q) 1) (by decide) rfl ?_
                refine x_goto C (tgt := 134) (dk ddX11_works_p1 7 rfl) (by decide) ?_
                refine x_sub [0, 1, 2, 3, 4] (lv' := [(5, .int (nI (wd - 1 - j + 1 + (q + 1)))), (4, .int (nI (wd - 1 - j))), (0, .ref m), (1, .int (nI wd)), (2, .ref t)]) rfl ?_
                have e_ : ax_br t (wd - 1 - j) (q + 1) (ax_bk t wd j Y) = ax_ta t (wd - 1 - j) t (wd - 1 - j + 1 + q) (ax_fdiv ((ax_br t (wd - 1 - j) q (ax_bk t wd j Y)) t (6 * (wd - 1 - j) + (wd - 1 - j + 1 + q))) ((ax_br t (wd - 1 - j) q (ax_bk t wd j Y)) t (7 * (wd - 1 - j + 1 + q)))) 6 (ax_br t (wd - 1 - j) q (ax_bk t wd j Y)) := by show (if _ then _ else _ : ax_L) = _; rw [if_neg h148]
                have h_ := ihq_ (q + 1) (by omega)
                rw [e_] at h_
                exact h_
        refine x_sub [0, 1, 2, 3, 4] (lv' := [(5, .int (nI (wd - 1 - j + 1))), (4, .int (nI (wd - 1 - j))), (0, .ref m), (1, .int (nI wd)), (2, .ref t)]) rfl ?_
        exact hin j 0 (by omega)
  have hl2 : ∀ (n_ k : Nat), k + n_ = wd → ∀ (fk : Nat) (Jk : ax_L), ax_wk (m + 4) t h fu k (ax_t0 t 36 L) = some (fk, Jk) → ax_XM p_ l e_ s_ m_ args_ below_ meth_ c_ 8 D T o d 0 0 G (fun v G' I' L' => v = none ∧ G = G' ∧ I = I' ∧ ax_bk t wd wd Y = L') G I Jk 23 [(3, .int (nI fk)), (4, .int (nI k)), (0, .ref m), (1, .int (nI wd)), (2, .ref t)] [] := by
    intro n_
    induction n_ with
    | zero =>
      intro k hk fk Jk hq
      rw [show k = wd by omega] at hq ⊢
      have e0 : (fk, Jk) = (z, Y) := Option.some.inj (hq.symm.trans hY)
      obtain ⟨rfl, rfl⟩ := Prod.mk.inj e0
      refine x_iload C (dk ddX11_works 15 rfl) rfl ?_
      refine x_iload_n C (dk ddX11_works 16 rfl) rfl ?_
      refine x_icmp_ge_n C (tgt := 118) (dk ddX11_works 17 rfl) (by decide) (by omega) (by omega) (fun h26 => ?_) (fun h26 => ?_)
      · refine x_iload_n C (dk ddX11_works 66 rfl) rfl ?_
        refine x_iconst C (v := nI 1) (dk ddX11_works 67 rfl) (by decide) ?_
        refine x_isub C (dk ddX11_works 68 rfl) ?_
        refine x_istore C (lv' := [(4, .int ((nI wd) - (nI 1))), (3, .int (nI fk)), (0, .ref m), (1, .int (nI wd)), (2, .ref t)]) (dk ddX11_works 69 rfl) (by decide) rfl ?_
        refine x_sub [0, 2, 3, 4] (lv' := [(4, .int (nI wd - nI 1)), (0, .ref m), (1, .int (nI wd)), (2, .ref t)]) rfl ?_
        exact hl3 wd 0 (by omega)
      · exfalso
        omega
    | succ n_ ih_ =>
      intro k hk fk Jk hq
      obtain ⟨z1, hz1⟩ := ax_wk_pre hY (k + 1) (by omega)
      obtain ⟨z0, hz0, e2⟩ := Option.bind_eq_some_iff.mp hz1
      have e0 : (fk, Jk) = z0 := Option.some.inj (hq.symm.trans hz0)
      subst e0
      obtain ⟨⟨rb, RL⟩, hr_, e3⟩ := Option.map_eq_some_iff.mp e2
      have hle := ax_wk_le hq
      have hle1 : fk ≤ k := hle.1
      have hle2 : fk ≤ h := hle.2
      refine x_iload C (dk ddX11_works 15 rfl) rfl ?_
      refine x_iload_n C (dk ddX11_works 16 rfl) rfl ?_
      refine x_icmp_ge_n C (tgt := 118) (dk ddX11_works 17 rfl) (by decide) (by omega) (by omega) (fun h26 => ?_) (fun h26 => ?_)
      · exfalso
        omega
      · refine x_aload_n C (dk ddX11_works 18 rfl) rfl ?_
        refine x_iload_n C (dk ddX11_works 19 rfl) rfl ?_
        refine x_iload C (dk ddX11_works 20 rfl) rfl ?_
        refine x_callV C (ci := 11) (As := [.int (nI fk), .int (nI k)]) (k_X11_leadsAt l D T o (d - 1) G I Jk m fk k h fu rb RL hM hh hh2 (by omega) (by omega) hr_ (by omega)) mlX11_152 rfl rfl (hM.lt (j := 0) (by decide)) hM.2.1 ⟨by show d - 1 + 1 ≤ d; omega, by show 40 * (d - 1 + 1) ≤ 40 * d; omega⟩ ⟨Nat.le_refl _, Nat.le_refl _⟩ rfl (Nat.le_of_ble_eq_true rfl) (dk ddX11_works 21 rfl) ?_
        rintro v_ G_ I_ L_ ⟨rfl, rfl, rfl, rfl⟩
        refine x_if_ne_b C (tgt := 42) (dk ddX11_works 22 rfl) (by decide) (fun h36 => ?_) (fun h36 => ?_)
        · subst h36
          have hlt := ax_ldf_lt hr_
          refine x_aload_n C (dk ddX11_works 24 rfl) rfl ?_
          refine x_getr C flX11_19 rfl (hM.lt (j := 0) (by decide)) hM.2.1 (show ax_R G m 5 = some (m + 4) from (hM.2.2 3 _ rfl).1) (dk ddX11_works 25 rfl) ?_
          refine x_bipush C (v := nI 6) (dk ddX11_works 26 rfl) (by decide) ?_
          refine x_iload_n C (dk ddX11_works 27 rfl) rfl ?_
          refine x_imul_n C (dk ddX11_works 28 rfl) ?_
          refine x_iload C (dk ddX11_works 29 rfl) rfl ?_
          refine x_iadd_n C (dk ddX11_works 30 rfl) ?_
          refine x_lald_n C (hM.lt (j := 4) (by decide)) (hM.2.2 3 _ rfl).2.1 (show ax_N G (m + 4) = 96 from (hM.2.2 3 _ rfl).2.2) (by omega) (by decide) (dk ddX11_works 31 rfl) ?_
          refine x_lconst C (v := 0) (dk ddX11_works 32 rfl) (by decide) ?_
          refine x_lc_ge C (tgt := 65) (dk ddX11_works 33 rfl) (dk ddX11_works 34 rfl) (by decide) (fun h55 => ?_) (fun h55 => ?_)
          · have h55c := Int64.not_lt.mpr h55
            refine x_lconst C (v := 1) (dk ddX11_works 37 rfl) (by decide) ?_
            rw [show (1 : Int64) = ax_sg (RL (m + 4) (6 * fk + k)) from (by unfold ax_sg; rw [if_neg (Int64.not_lt.mpr h55)])]
            refine x_lstore C (lv' := [(5, .long (ax_sg (RL (m + 4) (6 * fk + k)))), (3, .int (nI fk)), (4, .int (nI k)), (0, .ref m), (1, .int (nI wd)), (2, .ref t)]) (dk ddX11_works 38 rfl) (by decide) rfl ?_
            refine x_iconst C (v := nI 0) (dk ddX11_works 39 rfl) (by decide) ?_
            refine x_istore C (lv' := [(7, .int (nI 0)), (5, .long (ax_sg (RL (m + 4) (6 * fk + k)))), (3, .int (nI fk)), (4, .int (nI k)), (0, .ref m), (1, .int (nI wd)), (2, .ref t)]) (dk ddX11_works 40 rfl) (by decide) rfl ?_
            have hin : ∀ (nq_ x : Nat), x + nq_ = 6 → ax_XM p_ l e_ s_ m_ args_ below_ meth_ c_ 8 D T o d 0 0 G (fun v G' I' L' => v = none ∧ G = G' ∧ I = I' ∧ ax_bk t wd wd Y = L') G I (ax_w6 t k (m + 4) fk (ax_sg (RL (m + 4) (6 * fk + k))) x RL) 71 [(7, .int (nI x)), (5, .long (ax_sg (RL (m + 4) (6 * fk + k)))), (3, .int (nI fk)), (4, .int (nI k)), (0, .ref m), (1, .int (nI wd)), (2, .ref t)] [] := by
              intro nq_
              induction nq_ with
              | zero =>
                intro x hkq_
                rw [show x = 6 by omega]
                refine x_iload C (dk ddX11_works 41 rfl) rfl ?_
                refine x_bipush C (v := nI 6) (dk ddX11_works 42 rfl) (by decide) ?_
                refine x_icmp_ge_n C (tgt := 109) (dk ddX11_works 43 rfl) (by decide) (by decide) (by decide) (fun _ => ?_) (fun h_ => absurd h_ (by decide))
                refine x_iinc C (v := nI (fk + 1)) (lv' := [(3, .int (nI (fk + 1))), (7, .int (nI 6)), (5, .long (ax_sg (RL (m + 4) (6 * fk + k)))), (4, .int (nI k)), (0, .ref m), (1, .int (nI wd)), (2, .ref t)]) (dk ddX11_works 63 rfl) rfl (nI_add fk 1) (by decide) rfl ?_
                refine x_iinc C (v := nI (k + 1)) (lv' := [(4, .int (nI (k + 1))), (3, .int (nI (fk + 1))), (7, .int (nI 6)), (5, .long (ax_sg (RL (m + 4) (6 * fk + k)))), (0, .ref m), (1, .int (nI wd)), (2, .ref t)]) (dk ddX11_works 64 rfl) rfl (nI_add k 1) (by decide) rfl ?_
                refine x_goto C (tgt := 23) (dk ddX11_works 65 rfl) (by decide) ?_
                subst e3
                refine x_sub [1, 0, 4, 5, 6] (lv' := [(3, .int (nI (fk + 1))), (4, .int (nI (k + 1))), (0, .ref m), (1, .int (nI wd)), (2, .ref t)]) rfl ?_
                exact ih_ (k + 1) (by omega) (fk + 1) _ hz1
              | succ nq_ ihq_ =>
                intro x hkq_
                refine x_iload C (dk ddX11_works 41 rfl) rfl ?_
                refine x_bipush C (v := nI 6) (dk ddX11_works 42 rfl) (by decide) ?_
                refine x_icmp_ge_n C (tgt := 109) (dk ddX11_works 43 rfl) (by decide) (by omega) (by decide) (fun h75 => ?_) (fun h75 => ?_)
                · exfalso
                  omega
                · refine x_aload_n C (dk ddX11_works 44 rfl) rfl ?_
                  refine x_bipush C (v := nI 6) (dk ddX11_works 45 rfl) (by decide) ?_
                  refine x_iload C (dk ddX11_works 46 rfl) rfl ?_
                  refine x_imul_n C (dk ddX11_works 47 rfl) ?_
                  refine x_iload C (dk ddX11_works 48 rfl) rfl ?_
                  refine x_iadd_n C (dk ddX11_works 49 rfl) ?_
                  refine x_lload C (dk ddX11_works 50 rfl) rfl ?_
                  refine x_aload_n C (dk ddX11_works 51 rfl) rfl ?_
                  refine x_getr C flX11_19 rfl (hM.lt (j := 0) (by decide)) hM.2.1 (show ax_R G m 5 = some (m + 4) from (hM.2.2 3 _ rfl).1) (dk ddX11_works 52 rfl) ?_
                  refine x_bipush C (v := nI 6) (dk ddX11_works 53 rfl) (by decide) ?_
                  refine x_iload_n C (dk ddX11_works 54 rfl) rfl ?_
                  refine x_imul_n C (dk ddX11_works 55 rfl) ?_
                  refine x_iload C (dk ddX11_works 56 rfl) rfl ?_
                  refine x_iadd_n C (dk ddX11_works 57 rfl) ?_
                  refine x_lald_n C (hM.lt (j := 4) (by decide)) (hM.2.2 3 _ rfl).2.1 (show ax_N G (m + 4) = 96 from (hM.2.2 3 _ rfl).2.2) (by omega) (by decide) (dk ddX11_works 58 rfl) ?_
                  refine x_lmul C (dk ddX11_works 59 rfl) ?_
                  refine x_last_n C ht.1 ht.2.1 ht.2.2 (by omega) (by decide) (dk ddX11_works 60 rfl) ?_
                  refine x_iinc C (v := nI (x + 1)) (lv' := [(7, .int (nI (x + 1))), (5, .long (ax_sg (RL (m + 4) (6 * fk + k)))), (3, .int (nI fk)), (4, .int (nI k)), (0, .ref m), (1, .int (nI wd)), (2, .ref t)]) (dk ddX11_works 61 rfl) rfl (nI_add x 1) (by decide) rfl ?_
                  refine x_goto C (tgt := 71) (dk ddX11_works 62 rfl) (by decide) ?_
                  refine x_sub [0, 1, 2, 3, 4, 5, 6] (lv' := [(7, .int (nI (x + 1))), (5, .long (ax_sg (RL (m + 4) (6 * fk + k)))), (3, .int (nI fk)), (4, .int (nI k)), (0, .ref m), (1, .int (nI wd)), (2, .ref t)]) rfl ?_
                  exact ihq_ (x + 1) (by omega)
            refine x_sub [0, 1, 2, 3, 4, 5, 6] (lv' := [(7, .int (nI 0)), (5, .long (ax_sg (RL (m + 4) (6 * fk + k)))), (3, .int (nI fk)), (4, .int (nI k)), (0, .ref m), (1, .int (nI wd)), (2, .ref t)]) rfl ?_
            exact hin 6 0 (by omega)
          · have h55c := Int64.not_le.mp h55
            refine x_ldc2 C klX11_156 (dk ddX11_works 35 rfl) ?_
            refine x_goto C (tgt := 66) (dk ddX11_works 36 rfl) (by decide) ?_
            rw [show ((-1) : Int64) = ax_sg (RL (m + 4) (6 * fk + k)) from (by unfold ax_sg; rw [if_pos h55c])]
            refine x_lstore C (lv' := [(5, .long (ax_sg (RL (m + 4) (6 * fk + k)))), (3, .int (nI fk)), (4, .int (nI k)), (0, .ref m), (1, .int (nI wd)), (2, .ref t)]) (dk ddX11_works 38 rfl) (by decide) rfl ?_
            refine x_iconst C (v := nI 0) (dk ddX11_works 39 rfl) (by decide) ?_
            refine x_istore C (lv' := [(7, .int (nI 0)), (5, .long (ax_sg (RL (m + 4) (6 * fk + k)))), (3, .int (nI fk)), (4, .int (nI k)), (0, .ref m), (1, .int (nI wd)), (2, .ref t)]) (dk ddX11_works 40 rfl) (by decide) rfl ?_
            have hin : ∀ (nq_ x : Nat), x + nq_ = 6 → ax_XM p_ l e_ s_ m_ args_ below_ meth_ c_ 8 D T o d 0 0 G (fun v G' I' L' => v = none ∧ G = G' ∧ I = I' ∧ ax_bk t wd wd Y = L') G I (ax_w6 t k (m + 4) fk (ax_sg (RL (m + 4) (6 * fk + k))) x RL) 71 [(7, .int (nI x)), (5, .long (ax_sg (RL (m + 4) (6 * fk + k)))), (3, .int (nI fk)), (4, .int (nI k)), (0, .ref m), (1, .int (nI wd)), (2, .ref t)] [] := by
              intro nq_
              induction nq_ with
              | zero =>
                intro x hkq_
                rw [show x = 6 by omega]
                refine x_iload C (dk ddX11_works 41 rfl) rfl ?_
                refine x_bipush C (v := nI 6) (dk ddX11_works 42 rfl) (by decide) ?_
                refine x_icmp_ge_n C (tgt := 109) (dk ddX11_works 43 rfl) (by decide) (by decide) (by decide) (fun _ => ?_) (fun h_ => absurd h_ (by decide))
                refine x_iinc C (v := nI (fk + 1)) (lv' := [(3, .int (nI (fk + 1))), (7, .int (nI 6)), (5, .long (ax_sg (RL (m + 4) (6 * fk + k)))), (4, .int (nI k)), (0, .ref m), (1, .int (nI wd)), (2, .ref t)]) (dk ddX11_works 63 rfl) rfl (nI_add fk 1) (by decide) rfl ?_
                refine x_iinc C (v := nI (k + 1)) (lv' := [(4, .int (nI (k + 1))), (3, .int (nI (fk + 1))), (7, .int (nI 6)), (5, .long (ax_sg (RL (m + 4) (6 * fk + k)))), (0, .ref m), (1, .int (nI wd)), (2, .ref t)]) (dk ddX11_works 64 rfl) rfl (nI_add k 1) (by decide) rfl ?_
                refine x_goto C (tgt := 23) (dk ddX11_works 65 rfl) (by decide) ?_
                subst e3
                refine x_sub [1, 0, 4, 5, 6] (lv' := [(3, .int (nI (fk + 1))), (4, .int (nI (k + 1))), (0, .ref m), (1, .int (nI wd)), (2, .ref t)]) rfl ?_
                exact ih_ (k + 1) (by omega) (fk + 1) _ hz1
              | succ nq_ ihq_ =>
                intro x hkq_
                refine x_iload C (dk ddX11_works 41 rfl) rfl ?_
                refine x_bipush C (v := nI 6) (dk ddX11_works 42 rfl) (by decide) ?_
                refine x_icmp_ge_n C (tgt := 109) (dk ddX11_works 43 rfl) (by decide) (by omega) (by decide) (fun h75 => ?_) (fun h75 => ?_)
                · exfalso
                  omega
                · refine x_aload_n C (dk ddX11_works 44 rfl) rfl ?_
                  refine x_bipush C (v := nI 6) (dk ddX11_works 45 rfl) (by decide) ?_
                  refine x_iload C (dk ddX11_works 46 rfl) rfl ?_
                  refine x_imul_n C (dk ddX11_works 47 rfl) ?_
                  refine x_iload C (dk ddX11_works 48 rfl) rfl ?_
                  refine x_iadd_n C (dk ddX11_works 49 rfl) ?_
                  refine x_lload C (dk ddX11_works 50 rfl) rfl ?_
                  refine x_aload_n C (dk ddX11_works 51 rfl) rfl ?_
                  refine x_getr C flX11_19 rfl (hM.lt (j := 0) (by decide)) hM.2.1 (show ax_R G m 5 = some (m + 4) from (hM.2.2 3 _ rfl).1) (dk ddX11_works 52 rfl) ?_
                  refine x_bipush C (v := nI 6) (dk ddX11_works 53 rfl) (by decide) ?_
                  refine x_iload_n C (dk ddX11_works 54 rfl) rfl ?_
                  refine x_imul_n C (dk ddX11_works 55 rfl) ?_
                  refine x_iload C (dk ddX11_works 56 rfl) rfl ?_
                  refine x_iadd_n C (dk ddX11_works 57 rfl) ?_
                  refine x_lald_n C (hM.lt (j := 4) (by decide)) (hM.2.2 3 _ rfl).2.1 (show ax_N G (m + 4) = 96 from (hM.2.2 3 _ rfl).2.2) (by omega) (by decide) (dk ddX11_works 58 rfl) ?_
                  refine x_lmul C (dk ddX11_works 59 rfl) ?_
                  refine x_last_n C ht.1 ht.2.1 ht.2.2 (by omega) (by decide) (dk ddX11_works 60 rfl) ?_
                  refine x_iinc C (v := nI (x + 1)) (lv' := [(7, .int (nI (x + 1))), (5, .long (ax_sg (RL (m + 4) (6 * fk + k)))), (3, .int (nI fk)), (4, .int (nI k)), (0, .ref m), (1, .int (nI wd)), (2, .ref t)]) (dk ddX11_works 61 rfl) rfl (nI_add x 1) (by decide) rfl ?_
                  refine x_goto C (tgt := 71) (dk ddX11_works 62 rfl) (by decide) ?_
                  refine x_sub [0, 1, 2, 3, 4, 5, 6] (lv' := [(7, .int (nI (x + 1))), (5, .long (ax_sg (RL (m + 4) (6 * fk + k)))), (3, .int (nI fk)), (4, .int (nI k)), (0, .ref m), (1, .int (nI wd)), (2, .ref t)]) rfl ?_
                  exact ihq_ (x + 1) (by omega)
            refine x_sub [0, 1, 2, 3, 4, 5, 6] (lv' := [(7, .int (nI 0)), (5, .long (ax_sg (RL (m + 4) (6 * fk + k)))), (3, .int (nI fk)), (4, .int (nI k)), (0, .ref m), (1, .int (nI wd)), (2, .ref t)]) rfl ?_
            exact hin 6 0 (by omega)
        · refine x_goto C (tgt := 112) (dk ddX11_works 23 rfl) (by decide) ?_
          refine x_iinc C (v := nI (k + 1)) (lv' := [(4, .int (nI (k + 1))), (3, .int (nI fk)), (0, .ref m), (1, .int (nI wd)), (2, .ref t)]) (dk ddX11_works 64 rfl) rfl (nI_add k 1) (by decide) rfl ?_
          refine x_goto C (tgt := 23) (dk ddX11_works 65 rfl) (by decide) ?_
          subst h36
          subst e3
          refine x_sub [1, 0, 2, 3, 4] (lv' := [(3, .int (nI fk)), (4, .int (nI (k + 1))), (0, .ref m), (1, .int (nI wd)), (2, .ref t)]) rfl ?_
          exact ih_ (k + 1) (by omega) fk RL hz1
  have hl1 : ∀ (n_ k : Nat), k + n_ = 36 → ax_XM p_ l e_ s_ m_ args_ below_ meth_ c_ 8 D T o d 0 0 G (fun v G' I' L' => v = none ∧ G = G' ∧ I = I' ∧ ax_bk t wd wd Y = L') G I (ax_t0 t k L) 2 [(3, .int (nI k)), (0, .ref m), (1, .int (nI wd)), (2, .ref t)] [] := by
    intro n_
    induction n_ with
    | zero =>
      intro k hk_
      rw [show k = 36 by omega]
      refine x_iload_n C (dk ddX11_works 2 rfl) rfl ?_
      refine x_bipush C (v := nI 36) (dk ddX11_works 3 rfl) (by decide) ?_
      refine x_icmp_ge_n C (tgt := 18) (dk ddX11_works 4 rfl) (by decide) (by decide) (by decide) (fun _ => ?_) (fun h_ => absurd h_ (by decide))
      refine x_iconst C (v := nI 0) (dk ddX11_works 11 rfl) (by decide) ?_
      refine x_istore_n C (lv' := [(3, .int (nI 0)), (0, .ref m), (1, .int (nI wd)), (2, .ref t)]) (dk ddX11_works 12 rfl) (by decide) rfl ?_
      refine x_iconst C (v := nI 0) (dk ddX11_works 13 rfl) (by decide) ?_
      refine x_istore C (lv' := [(4, .int (nI 0)), (3, .int (nI 0)), (0, .ref m), (1, .int (nI wd)), (2, .ref t)]) (dk ddX11_works 14 rfl) (by decide) rfl ?_
      refine x_sub [1, 0, 2, 3, 4] (lv' := [(3, .int (nI 0)), (4, .int (nI 0)), (0, .ref m), (1, .int (nI wd)), (2, .ref t)]) rfl ?_
      exact hl2 wd 0 (by omega) 0 _ rfl
    | succ n_ ih_ =>
      intro k hk_
      refine x_iload_n C (dk ddX11_works 2 rfl) rfl ?_
      refine x_bipush C (v := nI 36) (dk ddX11_works 3 rfl) (by decide) ?_
      refine x_icmp_ge_n C (tgt := 18) (dk ddX11_works 4 rfl) (by decide) (by omega) (by decide) (fun h5 => ?_) (fun h5 => ?_)
      · exfalso
        omega
      · refine x_aload_n C (dk ddX11_works 5 rfl) rfl ?_
        refine x_iload_n C (dk ddX11_works 6 rfl) rfl ?_
        refine x_lconst C (v := 0) (dk ddX11_works 7 rfl) (by decide) ?_
        refine x_last_n C ht.1 ht.2.1 ht.2.2 (by omega) (by decide) (dk ddX11_works 8 rfl) ?_
        refine x_iinc C (v := nI (k + 1)) (lv' := [(3, .int (nI (k + 1))), (0, .ref m), (1, .int (nI wd)), (2, .ref t)]) (dk ddX11_works 9 rfl) rfl (nI_add k 1) (by decide) rfl ?_
        refine x_goto C (tgt := 2) (dk ddX11_works 10 rfl) (by decide) ?_
        refine x_sub [0, 1, 2, 3] (lv' := [(3, .int (nI (k + 1))), (0, .ref m), (1, .int (nI wd)), (2, .ref t)]) rfl ?_
        exact ih_ (k + 1) (by omega)
  refine x_iconst C (v := nI 0) (dk ddX11_works 0 rfl) (by decide) ?_
  refine x_istore_n C (lv' := [(3, .int (nI 0)), (0, .ref m), (1, .int (nI wd)), (2, .ref t)]) (dk ddX11_works 1 rfl) (by decide) rfl ?_
  exact hl1 36 0 (by omega)

/-! ===== the greatest number that divides both ===== -/
/-- the judgement inside a method that was entered with memory G0 -/
abbrev ax_XM (p : Program) (l : Launch) (e : Env) (s : State) (m : MethodId) (args : Array Value) (below : List Frame) (meth : Method) (c : Code) (nL : Nat) (D : va_G) (T : Nat → ClassId) (o d mc ms : Nat) (G0 : ax_G) (Post : Option Value → ax_G → ax_I → ax_L → Prop) (G : ax_G) (I : ax_I) (L : ax_L) (pc : Nat) (lv : List (Nat × Value)) (st : List Value) : Prop :=
  ax_X p l e (ax_rm d mc ms) s m args below meth c nL D T o (ax_top G0) (ax_used G0) (MQ below (ax_Q D T o G0 mc ms Post) args s mc ms (fun q => o ≤ q)) G I L pc lv st
section AXS
variable {p : Program} {l : Launch} {e : Env} {R : Room} {s : State} {m : MethodId} {args : Array Value} {below : List Frame} {meth : Method} {c : Code}
variable {nL : Nat} {D : va_G} {T : Nat → ClassId} {o c0 u0 : Nat} {Q : State → Prop}
variable {G : ax_G} {I : ax_I} {L : ax_L} {pc : Nat} {lv lv' : List (Nat × Value)} {st : List Value}
/-- locals may be forgotten, or told in another order -/
theorem x_sub (ks : List Nat) (h : lv'.map some = ks.map (fun i => lv[i]?)) (k : ax_X p l e R s m args below meth c nL D T o c0 u0 Q G I L pc lv' st) : ax_X p l e R s m args below meth c nL D T o c0 u0 Q G I L pc lv st := by
  intro H locs ls a1 a2 a3 a4 a5
  refine k H locs ls a1 a2 ⟨a3.1, a3.2.1, fun q hq => a3.2.2 q ?_⟩ a4 a5
  obtain ⟨x, hx, rfl⟩ := List.mem_map.mp hq
  have h1 : some x ∈ lv'.map some := List.mem_map.mpr ⟨x, hx, rfl⟩
  rw [h] at h1
  obtain ⟨i, -, hi⟩ := List.mem_map.mp h1
  exact List.mem_map.mpr ⟨x, List.mem_of_getElem? hi, rfl⟩
end AXS
theorem ax_posN {a : Int64} (h : 0 ≤ a) : a = lN a.toInt.natAbs ∧ a.toInt.natAbs < 2 ^ 63 := by
  obtain ⟨k, hk, rfl⟩ := pk_lOf (Int64.not_lt.mpr h)
  rw [pk_lT hk]
  exact ⟨rfl, hk⟩
theorem ax_negN {a : Int64} (h : ¬ 0 ≤ a) (hm : -9223372036854775808 < a.toInt) : -a = lN a.toInt.natAbs ∧ a.toInt.natAbs < 2 ^ 63 := by
  have h0 : a.toInt < 0 := by
    have h1 := Int64.lt_iff_toInt_lt.mp (Int64.not_le.mp h)
    simpa using h1
  have hlt : a.toInt.natAbs < 2 ^ 63 := by omega
  refine ⟨?_, hlt⟩
  apply Int64.toInt_inj.mp
  rw [pk_lT hlt, Int64.toInt_neg, Int.bmod_eq_of_le_mul_two (by omega) (by omega)]
  omega
set_option maxRecDepth 20000 in
theorem k_X11_common (l : Launch) (D : va_G) (T : Nat → ClassId) (o d : Nat) (G : ax_G) (I : ax_I) (L : ax_L) (a b : Int64) (ha : -9223372036854775808 < a.toInt) (hb : -9223372036854775808 < b.toInt) : ax_Con l D T o yX11_common cX11_common 10 (some .long) d 0 0 [.long a, .long b] G I L (ax_pure G I L (.long (lN (Nat.gcd a.toInt.natAbs b.toInt.natAbs)))) := by
  refine ax_enter (by decide +kernel) (Nat.le_of_ble_eq_true rfl) ?_
  intro p_ e_ s_ m_ args_ below_ meth_ c_ C _
  refine x_lvs (lv' := [(0, .long a), (2, .long b)]) rfl ?_
  have hloop : ∀ (n i j : Nat), j ≤ n → i < 2 ^ 63 → j < 2 ^ 63 → Nat.gcd i j = Nat.gcd a.toInt.natAbs b.toInt.natAbs → ax_XM p_ l e_ s_ m_ args_ below_ meth_ c_ 10 D T o d 0 0 G (ax_pure G I L (.long (lN (Nat.gcd a.toInt.natAbs b.toInt.natAbs)))) G I L 28 [(6, .long (lN j)), (4, .long (lN i))] [] := by
    intro n
    induction n with
    | zero =>
      intro i j hj hi _ hg
      have hj0 : j = 0 := by omega
      subst hj0
      refine x_lload C (dk ddX11_common 18 rfl) rfl ?_
      refine x_lconst C (v := 0) (dk ddX11_common 19 rfl) (by decide) ?_
      refine x_lc_eq C (tgt := 53) (dk ddX11_common 20 rfl) (dk ddX11_common 21 rfl) (by decide) (fun h1 => ?_) (fun h1 => absurd rfl h1)
      refine x_lload C (dk ddX11_common 31 rfl) rfl ?_
      refine x_lret C rfl (ax_pure_i (by rw [← hg, Nat.gcd_zero_right])) rfl rfl (dk ddX11_common 32 rfl)
    | succ n ih =>
      intro i j hj hi hj2 hg
      refine x_lload C (dk ddX11_common 18 rfl) rfl ?_
      refine x_lconst C (v := 0) (dk ddX11_common 19 rfl) (by decide) ?_
      refine x_lc_eq C (tgt := 53) (dk ddX11_common 20 rfl) (dk ddX11_common 21 rfl) (by decide) (fun h1 => ?_) (fun h1 => ?_)
      · have hj0 : j = 0 := (pk_lEQ hj2 (by decide)).mp (h1.trans (rfl : (0 : Int64) = lN 0))
        subst hj0
        refine x_lload C (dk ddX11_common 31 rfl) rfl ?_
        refine x_lret C rfl (ax_pure_i (by rw [← hg, Nat.gcd_zero_right])) rfl rfl (dk ddX11_common 32 rfl)
      · have hj0 : 0 < j := by
          rcases Nat.eq_zero_or_pos j with q | q
          · subst q; exact absurd rfl h1
          · exact q
        refine x_lload C (dk ddX11_common 22 rfl) rfl ?_
        refine x_lload C (dk ddX11_common 23 rfl) rfl ?_
        refine x_lrem C (dk ddX11_common 24 rfl) h1 ?_
        rw [pk_lRem hi hj0 hj2]
        refine x_lstore C (lv' := [(8, .long (lN (i % j))), (6, .long (lN j)), (4, .long (lN i))]) (dk ddX11_common 25 rfl) (by decide) rfl ?_
        refine x_lload C (dk ddX11_common 26 rfl) rfl ?_
        refine x_lstore C (lv' := [(4, .long (lN j)), (8, .long (lN (i % j))), (6, .long (lN j))]) (dk ddX11_common 27 rfl) (by decide) rfl ?_
        refine x_lload C (dk ddX11_common 28 rfl) rfl ?_
        refine x_lstore C (lv' := [(6, .long (lN (i % j))), (4, .long (lN j)), (8, .long (lN (i % j)))]) (dk ddX11_common 29 rfl) (by decide) rfl ?_
        refine x_goto C (tgt := 28) (dk ddX11_common 30 rfl) (by decide) ?_
        refine x_sub [0, 1] (lv' := [(6, .long (lN (i % j))), (4, .long (lN j))]) rfl ?_
        have hlt := Nat.mod_lt i hj0
        exact ih j (i % j) (by omega) hj2 (by omega) (by rw [← hg, Nat.gcd_comm j, ← Nat.gcd_rec, Nat.gcd_comm])
  have h26 : ∀ (i j : Nat), i < 2 ^ 63 → j < 2 ^ 63 → Nat.gcd i j = Nat.gcd a.toInt.natAbs b.toInt.natAbs → ax_XM p_ l e_ s_ m_ args_ below_ meth_ c_ 10 D T o d 0 0 G (ax_pure G I L (.long (lN (Nat.gcd a.toInt.natAbs b.toInt.natAbs)))) G I L 26 [(4, .long (lN i)), (0, .long a), (2, .long b)] [.long (lN j)] := by
    intro i j hi hj hg
    refine x_lstore C (lv' := [(6, .long (lN j)), (4, .long (lN i)), (0, .long a), (2, .long b)]) (dk ddX11_common 17 rfl) (by decide) rfl ?_
    refine x_sub [0, 1] (lv' := [(6, .long (lN j)), (4, .long (lN i))]) rfl ?_
    exact hloop j i j (Nat.le_refl _) hi hj hg
  have h12 : ∀ (i : Nat), i < 2 ^ 63 → i = a.toInt.natAbs → ax_XM p_ l e_ s_ m_ args_ below_ meth_ c_ 10 D T o d 0 0 G (ax_pure G I L (.long (lN (Nat.gcd a.toInt.natAbs b.toInt.natAbs)))) G I L 12 [(0, .long a), (2, .long b)] [.long (lN i)] := by
    intro i hi hia
    refine x_lstore C (lv' := [(4, .long (lN i)), (0, .long a), (2, .long b)]) (dk ddX11_common 8 rfl) (by decide) rfl ?_
    refine x_lload_n C (dk ddX11_common 9 rfl) rfl ?_
    refine x_lconst C (v := 0) (dk ddX11_common 10 rfl) (by decide) ?_
    refine x_lc_ge C (tgt := 25) (dk ddX11_common 11 rfl) (dk ddX11_common 12 rfl) (by decide) (fun h1 => ?_) (fun h1 => ?_)
    · refine x_lload_n C (dk ddX11_common 16 rfl) rfl ?_
      obtain ⟨e1, e2⟩ := ax_posN h1
      have k := h26 i b.toInt.natAbs hi e2 (by rw [hia])
      rw [← e1] at k
      exact k
    · refine x_lload_n C (dk ddX11_common 13 rfl) rfl ?_
      refine x_lneg C (dk ddX11_common 14 rfl) ?_
      refine x_goto C (tgt := 26) (dk ddX11_common 15 rfl) (by decide) ?_
      obtain ⟨e1, e2⟩ := ax_negN h1 hb
      have k := h26 i b.toInt.natAbs hi e2 (by rw [hia])
      rw [← e1] at k
      exact k
  refine x_lload_n C (dk ddX11_common 0 rfl) rfl ?_
  refine x_lconst C (v := 0) (dk ddX11_common 1 rfl) (by decide) ?_
  refine x_lc_ge C (tgt := 11) (dk ddX11_common 2 rfl) (dk ddX11_common 3 rfl) (by decide) (fun h1 => ?_) (fun h1 => ?_)
  · refine x_lload_n C (dk ddX11_common 7 rfl) rfl ?_
    obtain ⟨e1, e2⟩ := ax_posN h1
    have k := h12 a.toInt.natAbs e2 rfl
    rw [← e1] at k
    exact k
  · refine x_lload_n C (dk ddX11_common 4 rfl) rfl ?_
    refine x_lneg C (dk ddX11_common 5 rfl) ?_
    refine x_goto C (tgt := 12) (dk ddX11_common 6 rfl) (by decide) ?_
    obtain ⟨e1, e2⟩ := ax_negN h1 ha
    have k := h12 a.toInt.natAbs e2 rfl
    rw [← e1] at k
    exact k
theorem ax_absN {a : Int64} (hm : -9223372036854775808 < a.toInt) : ax_abs a = lN a.toInt.natAbs ∧ a.toInt.natAbs < 2 ^ 63 := by
  unfold ax_abs
  by_cases h : 0 ≤ a
  · rw [if_pos h]; exact ax_posN h
  · rw [if_neg h]; exact ax_negN h hm
theorem ax_half {i j : Nat} (hj : 0 < j) (h0 : 0 < i % j) : 2 * (j % (i % j)) < j := by
  have h1 : i % j < j := Nat.mod_lt i hj
  generalize i % j = r at h0 h1
  rcases Nat.lt_or_ge j (2 * r) with q | q
  · have e : j % r = j - r := by
      rw [Nat.mod_eq_sub_mod (by omega), Nat.mod_eq_of_lt (by omega)]
    omega
  · have := Nat.mod_lt j h0
    omega
set_option maxRecDepth 20000 in
theorem k_X10_greatestDivisor (l : Launch) (D : va_G) (T : Nat → ClassId) (o d : Nat) (G : ax_G) (I : ax_I) (L : ax_L) (a b : Int64) (ha : -9223372036854775808 < a.toInt) (hb : -9223372036854775808 < b.toInt) (hd : 1 ≤ d) : ax_Con l D T o yX10_greatestDivisor cX10_greatestDivisor 11 (some .long) d 0 0 [.long a, .long b] G I L (ax_pure G I L (.long (lN (Nat.gcd a.toInt.natAbs b.toInt.natAbs)))) := by
  refine ax_enter (by decide +kernel) (Nat.le_of_ble_eq_true rfl) ?_
  intro p_ e_ s_ m_ args_ below_ meth_ c_ C _
  refine x_lvs (lv' := [(0, .long a), (2, .long b)]) rfl ?_
  have hstep : ∀ (t i j : Nat), t < 200 → i < 2 ^ 63 → j < 2 ^ 63 → 0 < j → ax_XM p_ l e_ s_ m_ args_ below_ meth_ c_ 11 D T o d 0 0 G (ax_pure G I L (.long (lN (Nat.gcd a.toInt.natAbs b.toInt.natAbs)))) G I L 15 [(8, .int (nI (t + 1))), (6, .long (lN (i % j))), (4, .long (lN j))] [] → ax_XM p_ l e_ s_ m_ args_ below_ meth_ c_ 11 D T o d 0 0 G (ax_pure G I L (.long (lN (Nat.gcd a.toInt.natAbs b.toInt.natAbs)))) G I L 15 [(8, .int (nI t)), (6, .long (lN j)), (4, .long (lN i))] [] := by
    intro t i j ht hi hj h0 k
    refine x_iload C (dk ddX10_greatestDivisor 8 rfl) rfl ?_
    refine x_sipush C (v := 200) (dk ddX10_greatestDivisor 9 rfl) (by decide) ?_
    refine x_icmp_ge C (tgt := 51) (dk ddX10_greatestDivisor 10 rfl) (by decide) (fun h1 => ?_) (fun h1 => ?_)
    · have h2 := (nI_leI (a := 200) (b := t) (by decide) (by omega)).mp h1
      omega
    · refine x_lload C (dk ddX10_greatestDivisor 11 rfl) rfl ?_
      refine x_lconst C (v := 0) (dk ddX10_greatestDivisor 12 rfl) (by decide) ?_
      refine x_lc_eq C (tgt := 51) (dk ddX10_greatestDivisor 13 rfl) (dk ddX10_greatestDivisor 14 rfl) (by decide) (fun h2 => ?_) (fun h2 => ?_)
      · have h3 : j = 0 := (pk_lEQ hj (by decide)).mp (h2.trans (rfl : (0 : Int64) = lN 0))
        omega
      · refine x_lload C (dk ddX10_greatestDivisor 15 rfl) rfl ?_
        refine x_lload C (dk ddX10_greatestDivisor 16 rfl) rfl ?_
        refine x_lrem C (dk ddX10_greatestDivisor 17 rfl) h2 ?_
        rw [pk_lRem hi h0 hj]
        refine x_lstore C (lv' := [(9, .long (lN (i % j))), (8, .int (nI t)), (6, .long (lN j)), (4, .long (lN i))]) (dk ddX10_greatestDivisor 18 rfl) (by decide) rfl ?_
        refine x_lload C (dk ddX10_greatestDivisor 19 rfl) rfl ?_
        refine x_lstore C (lv' := [(4, .long (lN j)), (9, .long (lN (i % j))), (8, .int (nI t)), (6, .long (lN j))]) (dk ddX10_greatestDivisor 20 rfl) (by decide) rfl ?_
        refine x_lload C (dk ddX10_greatestDivisor 21 rfl) rfl ?_
        refine x_lstore C (lv' := [(6, .long (lN (i % j))), (4, .long (lN j)), (9, .long (lN (i % j))), (8, .int (nI t))]) (dk ddX10_greatestDivisor 22 rfl) (by decide) rfl ?_
        refine x_iinc C (v := nI (t + 1)) (lv' := [(8, .int (nI (t + 1))), (6, .long (lN (i % j))), (4, .long (lN j)), (9, .long (lN (i % j)))]) (dk ddX10_greatestDivisor 23 rfl) rfl (nI_1 t) (by decide) rfl ?_
        refine x_goto C (tgt := 15) (dk ddX10_greatestDivisor 24 rfl) (by decide) ?_
        refine x_sub [0, 1, 2] (lv' := [(8, .int (nI (t + 1))), (6, .long (lN (i % j))), (4, .long (lN j))]) rfl ?_
        exact k
  have hexit : ∀ (t i : Nat), t < 200 → i = Nat.gcd a.toInt.natAbs b.toInt.natAbs → ax_XM p_ l e_ s_ m_ args_ below_ meth_ c_ 11 D T o d 0 0 G (ax_pure G I L (.long (lN (Nat.gcd a.toInt.natAbs b.toInt.natAbs)))) G I L 15 [(8, .int (nI t)), (6, .long (lN 0)), (4, .long (lN i))] [] := by
    intro t i ht hi
    refine x_iload C (dk ddX10_greatestDivisor 8 rfl) rfl ?_
    refine x_sipush C (v := 200) (dk ddX10_greatestDivisor 9 rfl) (by decide) ?_
    refine x_icmp_ge C (tgt := 51) (dk ddX10_greatestDivisor 10 rfl) (by decide) (fun h1 => ?_) (fun h1 => ?_)
    · have h2 := (nI_leI (a := 200) (b := t) (by decide) (by omega)).mp h1
      omega
    · refine x_lload C (dk ddX10_greatestDivisor 11 rfl) rfl ?_
      refine x_lconst C (v := 0) (dk ddX10_greatestDivisor 12 rfl) (by decide) ?_
      refine x_lc_eq C (tgt := 51) (dk ddX10_greatestDivisor 13 rfl) (dk ddX10_greatestDivisor 14 rfl) (by decide) (fun h2 => ?_) (fun h2 => absurd rfl h2)
      refine x_lload C (dk ddX10_greatestDivisor 25 rfl) rfl ?_
      exact x_lret C rfl (ax_pure_i (by rw [hi])) rfl rfl (dk ddX10_greatestDivisor 26 rfl)
  have hloop : ∀ (n t i j : Nat), j < 2 ^ n → t + 2 * n < 200 → i < 2 ^ 63 → j < 2 ^ 63 → Nat.gcd i j = Nat.gcd a.toInt.natAbs b.toInt.natAbs → ax_XM p_ l e_ s_ m_ args_ below_ meth_ c_ 11 D T o d 0 0 G (ax_pure G I L (.long (lN (Nat.gcd a.toInt.natAbs b.toInt.natAbs)))) G I L 15 [(8, .int (nI t)), (6, .long (lN j)), (4, .long (lN i))] [] := by
    intro n
    induction n with
    | zero =>
      intro t i j hj ht hi hj2 hg
      have hj0 : j = 0 := by omega
      subst hj0
      exact hexit t i (by omega) (by rw [← hg, Nat.gcd_zero_right])
    | succ n ih =>
      intro t i j hj ht hi hj2 hg
      rcases Nat.eq_zero_or_pos j with q | q
      · subst q
        exact hexit t i (by omega) (by rw [← hg, Nat.gcd_zero_right])
      · have hlt := Nat.mod_lt i q
        have hg1 : Nat.gcd j (i % j) = Nat.gcd a.toInt.natAbs b.toInt.natAbs := by rw [← hg, Nat.gcd_comm j, ← Nat.gcd_rec, Nat.gcd_comm]
        refine hstep t i j (by omega) hi hj2 q ?_
        rcases Nat.eq_zero_or_pos (i % j) with q1 | q1
        · rw [q1] at hg1 ⊢
          exact hexit (t + 1) j (by omega) (by rw [← hg1, Nat.gcd_zero_right])
        · refine hstep (t + 1) j (i % j) (by omega) hj2 (by omega) q1 ?_
          have h2 := ax_half q q1
          have hp : 2 ^ (n + 1) = 2 * 2 ^ n := Nat.pow_succ'
          exact ih (t + 1 + 1) (i % j) (j % (i % j)) (by omega) (by omega) (by omega) (by omega) (by rw [← hg1, Nat.gcd_comm (i % j), ← Nat.gcd_rec, Nat.gcd_comm])
  obtain ⟨ea, la⟩ := ax_absN ha
  obtain ⟨eb, lb⟩ := ax_absN hb
  refine x_lload_n C (dk ddX10_greatestDivisor 0 rfl) rfl ?_
  refine x_callS C (As := [.long a]) (k_J9_abs_067f4 l D T o (d - 1) G I L a) mlX10_395 ⟨by show d - 1 + 1 ≤ d; omega, by show 40 * (d - 1 + 1) ≤ 40 * d; omega⟩ ⟨Nat.le_refl _, Nat.le_refl _⟩ rfl (Nat.le_of_ble_eq_true rfl) (dk ddX10_greatestDivisor 1 rfl) ?_
  rintro v_ G_ I_ L_ ⟨rfl, rfl, rfl, rfl⟩
  rw [ea]
  refine x_lstore C (lv' := [(4, .long (lN a.toInt.natAbs)), (0, .long a), (2, .long b)]) (dk ddX10_greatestDivisor 2 rfl) (by decide) rfl ?_
  refine x_lload_n C (dk ddX10_greatestDivisor 3 rfl) rfl ?_
  refine x_callS C (As := [.long b]) (k_J9_abs_067f4 l D T o (d - 1) G I L b) mlX10_395 ⟨by show d - 1 + 1 ≤ d; omega, by show 40 * (d - 1 + 1) ≤ 40 * d; omega⟩ ⟨Nat.le_refl _, Nat.le_refl _⟩ rfl (Nat.le_of_ble_eq_true rfl) (dk ddX10_greatestDivisor 4 rfl) ?_
  rintro v_ G_ I_ L_ ⟨rfl, rfl, rfl, rfl⟩
  rw [eb]
  refine x_lstore C (lv' := [(6, .long (lN b.toInt.natAbs)), (4, .long (lN a.toInt.natAbs)), (0, .long a), (2, .long b)]) (dk ddX10_greatestDivisor 5 rfl) (by decide) rfl ?_
  refine x_iconst C (v := 0) (dk ddX10_greatestDivisor 6 rfl) (by decide) ?_
  refine x_istore C (lv' := [(8, .int (nI 0)), (6, .long (lN b.toInt.natAbs)), (4, .long (lN a.toInt.natAbs)), (0, .long a), (2, .long b)]) (dk ddX10_greatestDivisor 7 rfl) (by decide) rfl ?_
  refine x_sub [0, 1, 2] (lv' := [(8, .int (nI 0)), (6, .long (lN b.toInt.natAbs)), (4, .long (lN a.toInt.natAbs))]) rfl ?_
  exact hloop 63 0 _ _ lb (by omega) la lb rfl

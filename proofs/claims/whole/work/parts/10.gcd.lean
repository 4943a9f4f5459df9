/-! ===== the greatest number that divides both ===== -/
/-- the judgement inside a method that was entered with memory G0 -/
abbrev ax_XM (p : Program) (l : Launch) (e : Env) (s : State) (m : MethodId) (args : Array Value) (below : List Frame) (meth : Method) (c : Code) (nL : Nat) (D : va_G) (T : Nat → ClassId) (o d mc ms : Nat) (G0 : ax_G) (Post : Option Value → ax_G → ax_I → ax_L → Prop) (G : ax_G) (I : ax_I) (L : ax_L) (pc : Nat) (lv : List (Nat × Value)) (st : List Value) : Prop :=
  ax_X p l e (ax_rm d mc ms) s m args below meth c nL D T o (ax_top G0) (ax_used G0) (MQ below (ax_Q D T o G0 mc ms Post) args s mc ms (fun q => o ≤ q)) G I L pc lv st
section AXS
variable {p : Program} {l : Launch} {e : Env} {R : Room} {s : State} {m : MethodId} {args : Array Value} {below : List Frame} {meth : Method} {c : Code}
variable {nL : Nat} {D : va_G} {T : Nat → ClassId} {o c0 u0 : Nat} {Q : State → Prop}
variable {G : ax_G} {I : ax_I} {L : ax_L} {pc : Nat} {lv lv' : List (Nat × Value)} {st : List Value}
/-- locals may be forgotten, or told in another order -/
theorem x_sub (ks : List Nat) (h : lv'.map some = ks.map (fun i => lv[i]?)) (k : ax_X p l e R s m args below meth c nL D T o c0 u0 Q G I L pc lv' st) : ax_X p l e R s m args below meth c nL D T o c0 u0 Q G I L pc lv st := by
  intro H locs ls a1 a2 a3 a4 a5
  refine k H locs ls a1 a2 ⟨a3.1, a3.2.1, fun q hq => a3.2.2 q ?_⟩ a4 a5
  obtain ⟨x, hx, rfl⟩ := List.mem_map.mp hq
  have h1 : some x ∈ lv'.map some := List.mem_map.mpr ⟨x, hx, rfl⟩
  rw [h] at h1
  obtain ⟨i, -, hi⟩ := List.mem_map.mp h1
  exact List.mem_map.mpr ⟨x, List.mem_of_getElem? hi, rfl⟩
end AXS
theorem ax_posN {a : Int64} (h : 0 ≤ a) : a = lN a.toInt.natAbs ∧ a.toInt.natAbs < 2 ^ 63 := by
  obtain ⟨k, hk, rfl⟩ := pk_lOf (Int64.not_lt.mpr h)
  rw [pk_lT hk]
  exact ⟨rfl, hk⟩
theorem ax_negN {a : Int64} (h : ¬ 0 ≤ a) (hm : -9223372036854775808 < a.toInt) : -a = lN a.toInt.natAbs ∧ a.toInt.natAbs < 2 ^ 63 := by
  have h0 : a.toInt < 0 := by
    have h1 := Int64.lt_iff_toInt_lt.mp (Int64.not_le.mp h)
    simpa using h1
  have hlt : a.toInt.natAbs < 2 ^ 63 := by omega
  refine ⟨?_, hlt⟩
  apply Int64.toInt_inj.mp
  rw [pk_lT hlt, Int64.toInt_neg, Int.bmod_eq_of_le_mul_two (by omega) (by omega)]
  omega
set_option maxRecDepth 20000 in
theorem k_X11_common (l : Launch) (D : va_G) (T : Nat → ClassId) (o d : Nat) (G : ax_G) (I : ax_I) (L : ax_L) (a b : Int64) (ha : -9223372036854775808 < a.toInt) (hb : -9223372036854775808 < b.toInt) : ax_Con l D T o yX11_common cX11_common 10 (some .long) d 0 0 [.long a, .long b] G I L (ax_pure G I L (.long (lN (Nat.gcd a.toInt.natAbs b.toInt.natAbs)))) := by
  refine ax_enter (by decide +kernel) (Nat.le_of_ble_eq_true rfl) ?_
  intro p_ e_ s_ m_ args_ below_ meth_ c_ C _
  refine x_lvs (lv' := [(0, .long a), (2, .long b)]) rfl ?_
  have hloop : ∀ (n i j : Nat), j ≤ n → i < 2 ^ 63 → j < 2 ^ 63 → Nat.gcd i j = Nat.gcd a.toInt.natAbs b.toInt.natAbs → ax_XM p_ l e_ s_ m_ args_ below_ meth_ c_ 10 D T o d 0 0 G (ax_pure G I L (.long (lN (Nat.gcd a.toInt.natAbs b.toInt.natAbs)))) G I L 28 [(6, .long (lN j)), (4, .long (lN i))] [] := by
    intro n
    induction n with
    | zero =>
      intro i j hj hi _ hg
      have hj0 : j = 0 := by omega
      subst hj0
      refine x_lload C (dk ddX11_common 18 rfl) rfl ?_
      refine x_lconst C (v := 0) (dk ddX11_common 19 rfl) (by decide) ?_
      refine x_lc_eq C (tgt := 53) (dk ddX11_common 20 rfl) (dk ddX11_common 21 rfl) (by decide) (fun h1 => ?_) (fun h1 => absurd rfl h1)
      refine x_lload C (dk ddX11_common 31 rfl) rfl ?_
      refine x_lret C rfl (ax_pure_i (by rw [← hg, Nat.gcd_zero_right])) rfl rfl (dk ddX11_common 32 rfl)
    | succ n ih =>
      intro i j hj hi hj2 hg
      refine x_lload C (dk ddX11_common 18 rfl) rfl ?_
      refine x_lconst C (v := 0) (dk ddX11_common 19 rfl) (by decide) ?_
      refine x_lc_eq C (tgt := 53) (dk ddX11_common 20 rfl) (dk ddX11_common 21 rfl) (by decide) (fun h1 => ?_) (fun h1 => ?_)
      · have hj0 : j = 0 := (pk_lEQ hj2 (by decide)).mp (h1.trans (rfl : (0 : Int64) = lN 0))
        subst hj0
        refine x_lload C (dk ddX11_common 31 rfl) rfl ?_
        refine x_lret C rfl (ax_pure_i (by rw [← hg, Nat.gcd_zero_right])) rfl rfl (dk ddX11_common 32 rfl)
      · have hj0 : 0 < j := by
          rcases Nat.eq_zero_or_pos j with q | q
          · subst q; exact absurd rfl h1
          · exact q
        refine x_lload C (dk ddX11_common 22 rfl) rfl ?_
        refine x_lload C (dk ddX11_common 23 rfl) rfl ?_
        refine x_lrem C (dk ddX11_common 24 rfl) h1 ?_
        rw [pk_lRem hi hj0 hj2]
        refine x_lstore C (lv' := [(8, .long (lN (i % j))), (6, .long (lN j)), (4, .long (lN i))]) (dk ddX11_common 25 rfl) (by decide) rfl ?_
        refine x_lload C (dk ddX11_common 26 rfl) rfl ?_
        refine x_lstore C (lv' := [(4, .long (lN j)), (8, .long (lN (i % j))), (6, .long (lN j))]) (dk ddX11_common 27 rfl) (by decide) rfl ?_
        refine x_lload C (dk ddX11_common 28 rfl) rfl ?_
        refine x_lstore C (lv' := [(6, .long (lN (i % j))), (4, .long (lN j)), (8, .long (lN (i % j)))]) (dk ddX11_common 29 rfl) (by decide) rfl ?_
        refine x_goto C (tgt := 28) (dk ddX11_common 30 rfl) (by decide) ?_
        refine x_sub [0, 1] (lv' := [(6, .long (lN (i % j))), (4, .long (lN j))]) rfl ?_
        have hlt := Nat.mod_lt i hj0
        exact ih j (i % j) (by omega) hj2 (by omega) (by rw [← hg, Nat.gcd_comm j, ← Nat.gcd_rec, Nat.gcd_comm])
  have h26 : ∀ (i j : Nat), i < 2 ^ 63 → j < 2 ^ 63 → Nat.gcd i j = Nat.gcd a.toInt.natAbs b.toInt.natAbs → ax_XM p_ l e_ s_ m_ args_ below_ meth_ c_ 10 D T o d 0 0 G (ax_pure G I L (.long (lN (Nat.gcd a.toInt.natAbs b.toInt.natAbs)))) G I L 26 [(4, .long (lN i)), (0, .long a), (2, .long b)] [.long (lN j)] := by
    intro i j hi hj hg
    refine x_lstore C (lv' := [(6, .long (lN j)), (4, .long (lN i)), (0, .long a), (2, .long b)]) (dk ddX11_common 17 rfl) (by decide) rfl ?_
    refine x_sub [0, 1] (lv' := [(6, .long (lN j)), (4, .long (lN i))]) rfl ?_
    exact hloop j i j (Nat.le_refl _) hi hj hg
  have h12 : ∀ (i : Nat), i < 2 ^ 63 → i = a.toInt.natAbs → ax_XM p_ l e_ s_ m_ args_ below_ meth_ c_ 10 D T o d 0 0 G (ax_pure G I L (.long (lN (Nat.gcd a.toInt.natAbs b.toInt.natAbs)))) G I L 12 [(0, .long a), (2, .long b)] [.long (lN i)] := by
    intro i hi hia
    refine x_lstore C (lv' := [(4, .long (lN i)), (0, .long a), (2, .long b)]) (dk ddX11_common 8 rfl) (by decide) rfl ?_
    refine x_lload_n C (dk ddX11_common 9 rfl) rfl ?_
    refine x_lconst C (v := 0) (dk ddX11_common 10 rfl) (by decide) ?_
    refine x_lc_ge C (tgt := 25) (dk ddX11_common 11 rfl) (dk ddX11_common 12 rfl) (by decide) (fun h1 => ?_) (fun h1 => ?_)
    · refine x_lload_n C (dk ddX11_common 16 rfl) rfl ?_
      obtain ⟨e1, e2⟩ := ax_posN h1
      have k := h26 i b.toInt.natAbs hi e2 (by rw [hia])
      rw [← e1] at k
      exact k
    · refine x_lload_n C (dk ddX11_common 13 rfl) rfl ?_
      refine x_lneg C (dk ddX11_common 14 rfl) ?_
      refine x_goto C (tgt := 26) (dk ddX11_common 15 rfl) (by decide) ?_
      obtain ⟨e1, e2⟩ := ax_negN h1 hb
      have k := h26 i b.toInt.natAbs hi e2 (by rw [hia])
      rw [← e1] at k
      exact k
  refine x_lload_n C (dk ddX11_common 0 rfl) rfl ?_
  refine x_lconst C (v := 0) (dk ddX11_common 1 rfl) (by decide) ?_
  refine x_lc_ge C (tgt := 11) (dk ddX11_common 2 rfl) (dk ddX11_common 3 rfl) (by decide) (fun h1 => ?_) (fun h1 => ?_)
  · refine x_lload_n C (dk ddX11_common 7 rfl) rfl ?_
    obtain ⟨e1, e2⟩ := ax_posN h1
    have k := h12 a.toInt.natAbs e2 rfl
    rw [← e1] at k
    exact k
  · refine x_lload_n C (dk ddX11_common 4 rfl) rfl ?_
    refine x_lneg C (dk ddX11_common 5 rfl) ?_
    refine x_goto C (tgt := 12) (dk ddX11_common 6 rfl) (by decide) ?_
    obtain ⟨e1, e2⟩ := ax_negN h1 ha
    have k := h12 a.toInt.natAbs e2 rfl
    rw [← e1] at k
    exact k

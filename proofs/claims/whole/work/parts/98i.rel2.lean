/-! ===== States are copied; a change; the objects when they are new ===== -/
theorem ax_sc_1 {b a j : Nat} {I : ax_I} (h : a + 14 ≤ b ∨ b + 14 ≤ a) (hj : j < 6) : ax_sc b a I (a + 1) j = I (b + 1) j := by
  unfold ax_sc
  repeat rw [ax_cp_ne (by omega)]
  rw [ax_u_ne (by omega)]
  repeat rw [ax_cp_ne (by omega)]
  rw [ax_cp_eq]
  unfold va_cpy
  rw [if_pos (by omega), Nat.zero_add, Nat.sub_zero]
  repeat rw [ax_cp_ne (by omega)]
  
theorem ax_sc_2 {b a j : Nat} {I : ax_I} (h : a + 14 ≤ b ∨ b + 14 ≤ a) (hj : j < 6) : ax_sc b a I (a + 2) j = I (b + 2) j := by
  unfold ax_sc
  repeat rw [ax_cp_ne (by omega)]
  rw [ax_u_ne (by omega)]
  repeat rw [ax_cp_ne (by omega)]
  rw [ax_cp_eq]
  unfold va_cpy
  rw [if_pos (by omega), Nat.zero_add, Nat.sub_zero]
  repeat rw [ax_cp_ne (by omega)]
  
theorem ax_sc_3 {b a j : Nat} {I : ax_I} (h : a + 14 ≤ b ∨ b + 14 ≤ a) (hj : j < 72) : ax_sc b a I (a + 3) j = I (b + 3) j := by
  unfold ax_sc
  repeat rw [ax_cp_ne (by omega)]
  rw [ax_u_ne (by omega)]
  repeat rw [ax_cp_ne (by omega)]
  rw [ax_cp_eq]
  unfold va_cpy
  rw [if_pos (by omega), Nat.zero_add, Nat.sub_zero]
  repeat rw [ax_cp_ne (by omega)]
  
theorem ax_sc_4 {b a j : Nat} {I : ax_I} (h : a + 14 ≤ b ∨ b + 14 ≤ a) (hj : j < 8) : ax_sc b a I (a + 4) j = I (b + 4) j := by
  unfold ax_sc
  repeat rw [ax_cp_ne (by omega)]
  rw [ax_u_ne (by omega)]
  repeat rw [ax_cp_ne (by omega)]
  rw [ax_cp_eq]
  unfold va_cpy
  rw [if_pos (by omega), Nat.zero_add, Nat.sub_zero]
  repeat rw [ax_cp_ne (by omega)]
  
theorem ax_sc_5 {b a j : Nat} {I : ax_I} (h : a + 14 ≤ b ∨ b + 14 ≤ a) (hj : j < 8) : ax_sc b a I (a + 5) j = I (b + 5) j := by
  unfold ax_sc
  repeat rw [ax_cp_ne (by omega)]
  rw [ax_u_ne (by omega)]
  repeat rw [ax_cp_ne (by omega)]
  rw [ax_cp_eq]
  unfold va_cpy
  rw [if_pos (by omega), Nat.zero_add, Nat.sub_zero]
  repeat rw [ax_cp_ne (by omega)]
  
theorem ax_sc_6 {b a j : Nat} {I : ax_I} (h : a + 14 ≤ b ∨ b + 14 ≤ a) (hj : j < 72) : ax_sc b a I (a + 6) j = I (b + 6) j := by
  unfold ax_sc
  repeat rw [ax_cp_ne (by omega)]
  rw [ax_u_ne (by omega)]
  repeat rw [ax_cp_ne (by omega)]
  rw [ax_cp_eq]
  unfold va_cpy
  rw [if_pos (by omega), Nat.zero_add, Nat.sub_zero]
  repeat rw [ax_cp_ne (by omega)]
  
theorem ax_sc_7 {b a j : Nat} {I : ax_I} (h : a + 14 ≤ b ∨ b + 14 ≤ a) (hj : j < 12) : ax_sc b a I (a + 7) j = I (b + 7) j := by
  unfold ax_sc
  repeat rw [ax_cp_ne (by omega)]
  rw [ax_cp_eq]
  unfold va_cpy
  rw [if_pos (by omega), Nat.zero_add, Nat.sub_zero]
  repeat rw [ax_cp_ne (by omega)]
  rw [ax_u_ne (by omega)]
  repeat rw [ax_cp_ne (by omega)]
theorem ax_sc_8 {b a j : Nat} {I : ax_I} (h : a + 14 ≤ b ∨ b + 14 ≤ a) (hj : j < 12) : ax_sc b a I (a + 8) j = I (b + 8) j := by
  unfold ax_sc
  repeat rw [ax_cp_ne (by omega)]
  rw [ax_cp_eq]
  unfold va_cpy
  rw [if_pos (by omega), Nat.zero_add, Nat.sub_zero]
  repeat rw [ax_cp_ne (by omega)]
  rw [ax_u_ne (by omega)]
  repeat rw [ax_cp_ne (by omega)]
theorem ax_sc_9 {b a j : Nat} {I : ax_I} (h : a + 14 ≤ b ∨ b + 14 ≤ a) (hj : j < 12) : ax_sc b a I (a + 9) j = I (b + 9) j := by
  unfold ax_sc
  repeat rw [ax_cp_ne (by omega)]
  rw [ax_cp_eq]
  unfold va_cpy
  rw [if_pos (by omega), Nat.zero_add, Nat.sub_zero]
  repeat rw [ax_cp_ne (by omega)]
  rw [ax_u_ne (by omega)]
  repeat rw [ax_cp_ne (by omega)]
theorem ax_sc_10 {b a j : Nat} {I : ax_I} (h : a + 14 ≤ b ∨ b + 14 ≤ a) (hj : j < 12) : ax_sc b a I (a + 10) j = I (b + 10) j := by
  unfold ax_sc
  repeat rw [ax_cp_ne (by omega)]
  rw [ax_cp_eq]
  unfold va_cpy
  rw [if_pos (by omega), Nat.zero_add, Nat.sub_zero]
  repeat rw [ax_cp_ne (by omega)]
  rw [ax_u_ne (by omega)]
  repeat rw [ax_cp_ne (by omega)]
theorem ax_sc_11 {b a j : Nat} {I : ax_I} (h : a + 14 ≤ b ∨ b + 14 ≤ a) (hj : j < 12) : ax_sc b a I (a + 11) j = I (b + 11) j := by
  unfold ax_sc
  repeat rw [ax_cp_ne (by omega)]
  rw [ax_cp_eq]
  unfold va_cpy
  rw [if_pos (by omega), Nat.zero_add, Nat.sub_zero]
  repeat rw [ax_cp_ne (by omega)]
  rw [ax_u_ne (by omega)]
  repeat rw [ax_cp_ne (by omega)]
theorem ax_sc_12 {b a j : Nat} {I : ax_I} (h : a + 14 ≤ b ∨ b + 14 ≤ a) (hj : j < 12) : ax_sc b a I (a + 12) j = I (b + 12) j := by
  unfold ax_sc
  repeat rw [ax_cp_ne (by omega)]
  rw [ax_cp_eq]
  unfold va_cpy
  rw [if_pos (by omega), Nat.zero_add, Nat.sub_zero]
  repeat rw [ax_cp_ne (by omega)]
  rw [ax_u_ne (by omega)]
  repeat rw [ax_cp_ne (by omega)]
theorem ax_sc_13 {b a j : Nat} {I : ax_I} (h : a + 14 ≤ b ∨ b + 14 ≤ a) (hj : j < 108) : ax_sc b a I (a + 13) j = I (b + 13) j := by
  unfold ax_sc
  repeat rw [ax_cp_ne (by omega)]
  rw [ax_cp_eq]
  unfold va_cpy
  rw [if_pos (by omega), Nat.zero_add, Nat.sub_zero]
  repeat rw [ax_cp_ne (by omega)]
  rw [ax_u_ne (by omega)]
  repeat rw [ax_cp_ne (by omega)]
theorem ax_sc_f {b a : Nat} {I : ax_I} (h : a + 14 ≤ b ∨ b + 14 ≤ a) : ax_sc b a I a 6 = I b 6 := by
  unfold ax_sc
  repeat rw [ax_cp_ne (by omega)]
  rw [ax_u_at]
  repeat rw [ax_cp_ne (by omega)]
theorem rl_St.copy {b a : Nat} {I : ax_I} {S : Nat → Int32} (h : rl_St b I S) (hab : a + 14 ≤ b ∨ b + 14 ≤ a) : rl_St a (ax_sc b a I) S := by
  obtain ⟨⟨h1, h2, h3, h4, h5⟩, hW⟩ := h
  refine ⟨⟨fun g hg => ?_, fun g r k hg hr hk hc => ?_, fun f hf => ?_, ?_, fun k hk hp => ?_⟩, hW⟩
  · rw [ax_sc_1 hab hg, ax_sc_2 hab hg]; exact h1 g hg
  · rw [ax_sc_3 hab (by omega)]; exact h2 g r k hg hr hk hc
  · rw [ax_sc_4 hab hf, ax_sc_5 hab hf]
    obtain ⟨a1, a2, a3⟩ := h3 f hf
    exact ⟨a1, a2, fun hm => ⟨(a3 hm).1, fun j hj => by rw [ax_sc_6 hab (by omega)]; exact (a3 hm).2 j hj⟩⟩
  · rw [ax_sc_f hab]; exact h4
  · obtain ⟨r1, r2, r3⟩ := h5 k hk hp
    rw [ax_sc_7 hab hk, ax_sc_8 hab hk, ax_sc_9 hab hk, ax_sc_10 hab hk, ax_sc_11 hab hk, ax_sc_12 hab hk]
    refine ⟨r1, r2, fun hs => ?_⟩
    obtain ⟨t1, t2, t3, t4, t5⟩ := r3 hs
    exact ⟨t1, t2, t3, t4, fun j hj => by rw [ax_sc_13 hab (by omega)]; exact t5 j hj⟩
set_option maxRecDepth 20000 in
/-- the reference's latest rows behind changes() -/
theorem ax_ch_new {m c z : Nat} {I : ax_I} (hc : c ≤ 20) (hz : z < 353) : ax_ch m c I (m + 3) (353 * (min c 19) + z) = I (m + 1) z := by
  unfold ax_ch
  by_cases h : c = 20
  · rw [if_pos h, ax_u_ne (by omega), ax_cp_eq]
    unfold va_cpy
    have e : 353 * min c 19 + z = 6707 + z := by omega
    rw [e, if_pos (by omega), ax_u_ne (by omega), ax_cp_ne (by omega), show 0 + (6707 + z - 6707) = z by omega]
  · have e : 353 * min c 19 + z = 353 * c + z := by omega
    rw [if_neg h, ax_u_ne (by omega), ax_cp_eq]
    unfold va_cpy
    rw [e, if_pos (by omega), show 0 + (353 * c + z - 353 * c) = z by omega]
theorem ax_ch_old {m c i z : Nat} {I : ax_I} (hc : c < 20) (hi : i < c) (hz : z < 353) : ax_ch m c I (m + 3) (353 * i + z) = I (m + 3) (353 * i + z) := by
  unfold ax_ch
  rw [if_neg (by omega), ax_u_ne (by omega), ax_cp_eq]
  unfold va_cpy
  have h1 : 353 * i + 353 ≤ 353 * c := by omega
  rw [if_neg (by omega)]
set_option maxRecDepth 20000 in
theorem ax_ch_shift {m i z : Nat} {I : ax_I} (hi : i < 19) (hz : z < 353) : ax_ch m 20 I (m + 3) (353 * i + z) = I (m + 3) (353 * (i + 1) + z) := by
  unfold ax_ch
  rw [if_pos rfl, ax_u_ne (by omega), ax_cp_eq]
  unfold va_cpy
  have h1 : 353 * i + 353 ≤ 6707 := by omega
  rw [if_neg (by omega), ax_u_ne (by omega), ax_cp_eq]
  unfold va_cpy
  rw [if_pos (by omega), show 353 + (353 * i + z - 0) = 353 * (i + 1) + z by omega]
theorem ax_ch_c {m c : Nat} {I : ax_I} (hc : c ≤ 20) : ax_ch m c I m 3 = nI (min (c + 1) 20) := by
  unfold ax_ch
  by_cases h : c = 20
  · subst h; rw [if_pos rfl, ax_u_at]; rfl
  · rw [if_neg h, ax_u_at, show min (c + 1) 20 = c + 1 by omega]
theorem ax_rem_k {k : Nat} (hk : k ≤ 20) : (if nI 20 < nI (k + 1) then nI 20 else nI (k + 1)) = nI (min (k + 1) 20) := by
  by_cases h : k = 20
  · subst h; rfl
  · rw [if_neg (nI_nlt (by omega) (by omega)), show min (k + 1) 20 = k + 1 by omega]
/-- a change: what both remember -/
theorem rl_H.chg {c k : Nat} {I J X : ax_I} (hS : rl_St 1 I (I 640)) (hc : c < 20) (hk : k ≤ 20) (h0 : ∀ i, i < k → rl_St (31 + 14 * ((c + 20 - k + i) % 20)) I (fun z => I 642 (353 * i + z)))
    (hJ : ∀ q, 29 ≤ q → q < 311 → J q = ax_rem 0 c k I q) (h3 : J 639 3 = ax_ch 639 k X 639 3) (h4 : J 642 = ax_ch 639 k X 642) (x1 : X 640 = I 640) (x2 : X 642 = I 642) : rl_H J := by
  have e29 : J 29 = ax_rem 0 c k I 29 := hJ 29 (by omega) (by omega)
  refine ⟨(c + 1) % 20, min (k + 1) 20, Nat.mod_lt _ (by omega), by omega, ?_, ?_, ?_, fun i hi => ?_⟩
  · rw [e29]; unfold ax_rem; rw [ax_u_nj (by omega), ax_u_at]
  · rw [e29]; unfold ax_rem; rw [ax_u_at, ax_rem_k hk]
  · rw [h3, ax_ch_c hk]
  · have hq : ∀ q, 31 ≤ q → q < 311 → J q = ax_sc 1 (31 + 14 * c) I q := by
      intro q h1 h2
      rw [hJ q (by omega) h2]
      unfold ax_rem
      rw [ax_u_ne (by omega), ax_u_ne (by omega), show 0 + 1 = 1 by omega, show 0 + 29 + (2 + 14 * c) = 31 + 14 * c by omega]
    by_cases hl : i = min k 19
    · have hm : ((c + 1) % 20 + 20 - min (k + 1) 20 + i) % 20 = c := by omega
      rw [hm]
      refine (hS.copy (a := 31 + 14 * c) (by omega)).keep (by rw [hq _ (by omega) (by omega)]) (fun q h1 h2 => hq q (by omega) (by omega)) (fun z hz => ?_)
      show J 642 (353 * i + z) = I 640 z
      rw [h4, hl, ← x1]
      exact ax_ch_new hk hz
    · have hm2 : ∀ d, d < 20 → ¬ d = c → ∀ q, 31 + 14 * d ≤ q → q < 31 + 14 * d + 14 → J q = I q := by
        intro d hd hdc q h1 h2
        rw [hq q (by omega) (by omega)]
        exact ax_sc_ne (by omega)
      by_cases h20 : k = 20
      · have hm : ((c + 1) % 20 + 20 - min (k + 1) 20 + i) % 20 = (c + 20 - k + (i + 1)) % 20 := by omega
        have hne : ¬ (c + 20 - k + (i + 1)) % 20 = c := by omega
        have hlt : (c + 20 - k + (i + 1)) % 20 < 20 := Nat.mod_lt _ (by omega)
        rw [hm]
        refine (h0 (i + 1) (by omega)).keep (by rw [hm2 _ hlt hne _ (by omega) (by omega)]) (fun q h1 h2 => hm2 _ hlt hne q (by omega) (by omega)) (fun z hz => ?_)
        show J 642 (353 * i + z) = I 642 (353 * (i + 1) + z)
        rw [h4, h20, ← x2]
        exact ax_ch_shift (by omega) hz
      · have hm : ((c + 1) % 20 + 20 - min (k + 1) 20 + i) % 20 = (c + 20 - k + i) % 20 := by omega
        have hne : ¬ (c + 20 - k + i) % 20 = c := by omega
        have hlt : (c + 20 - k + i) % 20 < 20 := Nat.mod_lt _ (by omega)
        rw [hm]
        refine (h0 i (by omega)).keep (by rw [hm2 _ hlt hne _ (by omega) (by omega)]) (fun q h1 h2 => hm2 _ hlt hne q (by omega) (by omega)) (fun z hz => ?_)
        show J 642 (353 * i + z) = I 642 (353 * i + z)
        rw [h4, ← x2]
        exact ax_ch_old (by omega) (by omega) hz
/-- a change: all of the relation but the State and its row -/
theorem rl_Rel.chg {c k : Nat} {G : ax_G} {I J X : ax_I} {L M : ax_L} (h : rl_Rel G I L) (hc : c < 20) (hk : k ≤ 20) (h0 : ∀ i, i < k → rl_St (31 + 14 * ((c + 20 - k + i) % 20)) I (fun z => I 642 (353 * i + z)))
    (hS : rl_St 1 J (J 640)) (hJ : ∀ q, 15 ≤ q → q < 639 → J q = ax_rem 0 c k I q) (hJ0 : J 0 = I 0) (h3 : J 639 3 = ax_ch 639 k X 639 3) (h4 : J 642 = ax_ch 639 k X 642) (x1 : X 640 = I 640) (x2 : X 642 = I 642)
    (h6 : J 639 4 = I 639 4) (h7 : J 639 29 = I 639 29) (h8 : J 641 = I 641) (h9 : J 657 = I 657) (h10 : ∀ q, 667 ≤ q → q < 673 → J q = I q)
    (k1 : ∀ q, 623 ≤ q → q < 639 → M q = L q) (k2 : M 669 = L 669) (k3 : M 672 = L 672) : rl_Rel G J M := by
  obtain ⟨r1, r2, r3, r4, ⟨t, b1, b2, b3, b4⟩, r6, r7⟩ := h
  have hr : ∀ q, 311 ≤ q → q < 639 → J q = I q := fun q a1 a2 => (hJ q (by omega) a2).trans (ax_rem_ne hc (by omega))
  have hr2 : ∀ q, 15 ≤ q → q < 29 → J q = I q := fun q a1 a2 => (hJ q a1 (by omega)).trans (ax_rem_ne hc (by omega))
  refine ⟨r1, hS, rl_H.chg r2 hc hk h0 (fun q a1 a2 => hJ q (by omega) (by omega)) h3 h4 x1 x2, ?_, ⟨t, b1, ?_, ?_, ?_⟩, ?_, ?_⟩
  · rcases r4 with ⟨q1, q2⟩ | ⟨q1, q2, q3⟩
    · exact Or.inl ⟨by rw [hJ0]; exact q1, h6.trans q2⟩
    · refine Or.inr ⟨by rw [hJ0]; exact q1, h6.trans q2, ?_⟩
      rw [h8]
      exact q3.keep (by rw [hr2 15 (by omega) (by omega)]) (fun q z1 z2 => hr2 q (by omega) (by omega)) (fun _ _ => rfl)
  · rw [hr 311 (by omega) (by omega)]; exact b2
  · rw [h7]; exact b3
  · intro i hi; rw [hr 312 (by omega) (by omega), h9]; exact b4 i hi
  · intro j hj
    rw [hr (623 + 2 * j) (by omega) (by omega), h10 667 (by omega) (by omega), h10 668 (by omega) (by omega), k1 (624 + 2 * j) (by omega) (by omega), k2]
    exact r6 j hj
  · intro j hj
    rw [hr (631 + 2 * j) (by omega) (by omega), h10 670 (by omega) (by omega), h10 671 (by omega) (by omega), k1 (632 + 2 * j) (by omega) (by omega), k3]
    exact r7 j hj
set_option maxRecDepth 20000 in
/-- both objects just made -/
theorem rl_new {G : ax_G} {I : ax_I} {L : ax_L} (h : ay_Nw G I L) : rl_Rel G I L := by
  obtain ⟨hc, hcL⟩ := h.cls
  obtain ⟨hrL, hr0, J, hJ, hI⟩ := h.ref
  have m0 : ∀ n q, q ≠ 640 → ax_m0 639 n J q = J q := by
    intro n q hq
    induction n with
    | zero => rfl
    | succ n ih => exact (ax_u_ne hq).trans ih
  have m1 : ∀ n z, ax_m0 639 n J 640 z = if ∃ f, f < n ∧ z = 84 + 11 * f then -1 else 0 := by
    intro n z
    induction n with
    | zero => rw [if_neg (by rintro ⟨f, h1, _⟩; omega)]; exact congrFun (hJ 0 (fun _ => 0) rfl) z
    | succ n ih =>
      show ax_u (ax_m0 639 n J) 640 (84 + 11 * n) (-1) 640 z = _
      by_cases e : z = 84 + 11 * n
      · subst e; rw [ax_u_at, if_pos ⟨n, by omega, rfl⟩]
      · rw [ax_u_nj e, ih]
        by_cases e2 : ∃ f, f < n ∧ z = 84 + 11 * f
        · rw [if_pos e2, if_pos (by obtain ⟨f, h1, h2⟩ := e2; exact ⟨f, by omega, h2⟩)]
        · rw [if_neg e2, if_neg (by rintro ⟨f, h1, h2⟩; exact e2 ⟨f, by omega, h2⟩)]
  have sm : ∀ f, f < 8 → I 640 (84 + 11 * f) = -1 := by
    intro f hf
    rw [← hI, m1, if_pos ⟨f, hf, rfl⟩]
  have s0 : ∀ z, (∀ f, f < 8 → z ≠ 84 + 11 * f) → I 640 z = 0 := by
    intro z hz
    rw [← hI, m1, if_neg (by rintro ⟨f, h1, h2⟩; exact hz f h1 h2)]
  have f4 : ∀ j, j < 4 → ax_f4 j = -1 := fun j hj => by
    match j, hj with
    | 0, _ => rfl
    | 1, _ => rfl
    | 2, _ => rfl
    | 3, _ => rfl
  have c2 : I 2 = fun _ => 0 := hc 2 _ rfl
  have c3 : I 3 = fun _ => 0 := hc 3 _ rfl
  have c5 : I 5 = fun j => if j < 8 then (-1) else 0 := hc 5 _ rfl
  have c6 : I 6 = fun j => if j < 8 then (-1) else 0 := hc 6 _ rfl
  have hsh : ∀ j, j < 4 → I (623 + 2 * j) = (fun i => if i = 1 then nI 0 else (fun i => if i = 0 then (-1) else (fun _ => 0) i) i) := by
    intro j hj
    match j, hj with
    | 0, _ => exact hc 623 _ rfl
    | 1, _ => exact hc 625 _ rfl
    | 2, _ => exact hc 627 _ rfl
    | 3, _ => exact hc 629 _ rfl
  have hsf : ∀ j, j < 4 → I (631 + 2 * j) = (fun i => if i = 3 then nI 0 else (fun i => if i = 2 then (-1) else (fun i => if i = 0 then (-1) else (fun _ => 0) i) i) i) := by
    intro j hj
    match j, hj with
    | 0, _ => exact hc 631 _ rfl
    | 1, _ => exact hc 633 _ rfl
    | 2, _ => exact hc 635 _ rfl
    | 3, _ => exact hc 637 _ rfl
  refine ⟨rl_F.of h, ⟨⟨fun g hg => ⟨?_, ?_⟩, fun g r k hg hr hk hq => ?_, fun f hf => ⟨?_, fun _ => ?_, fun hm => ?_⟩, ?_, fun k hk hq => ?_⟩, fun g hg => ⟨0, 0, by omega, by omega, ?_, ?_, fun r k hr _ => absurd hr (by omega)⟩, fun f hf => Or.inl (sm f hf), ⟨0, by omega, ?_, fun k hk => absurd hk (by omega)⟩⟩, ⟨0, 0, by omega, by omega, ?_, ?_, ?_, fun i hi => absurd hi (by omega)⟩, Or.inl ⟨?_, ?_⟩, ⟨0, by omega, ?_, ?_, fun i hi => absurd hi (by omega)⟩, fun j hj => ⟨⟨0, by omega, ?_, ?_⟩, ?_, Or.inl ?_, fun i hi => ?_⟩, fun j hj => Or.inl ⟨?_, ?_, ?_⟩⟩
  · rw [s0 _ (by omega)]; exact congrFun c2 g
  · rw [s0 _ (by omega)]; exact congrFun c3 g
  · rw [s0 _ (by omega)] at hq; exact absurd hq (Nat.not_lt_zero _)
  · rw [sm f hf]; show I 5 f = -1; rw [c5]; exact if_pos hf
  · show I 6 f = -1; rw [c6]; exact if_pos hf
  · exact absurd (sm f hf) hm
  · rw [s0 _ (by omega)]; exact (congrFun (hc 1 _ rfl) 6).trans rfl
  · rw [s0 _ (by omega)] at hq; exact absurd hq (Nat.not_lt_zero _)
  · exact s0 _ (by omega)
  · exact s0 _ (by omega)
  · exact s0 _ (by omega)
  · exact (congrFun (hc 29 _ rfl) 1).trans rfl
  · exact (congrFun (hc 29 _ rfl) 2).trans rfl
  · exact congrFun hr0 3
  · exact (congrFun (hc 0 _ rfl) 2).trans rfl
  · exact congrFun hr0 4
  · exact (congrFun (hc 311 _ rfl) 1).trans rfl
  · exact congrFun hr0 29
  · rw [hsh j hj]; rfl
  · rw [← hI, m0 8 668 (by omega)]; exact congrFun (hJ 28 (fun _ => 0) rfl) j
  · rw [hsh j hj, ← hI, m0 8 667 (by omega), hJ 27 _ rfl]; exact (f4 j hj).symm
  · rw [← hI, m0 8 667 (by omega), hJ 27 _ rfl]; exact f4 j hj
  · rw [hcL _ (by omega), hrL 29 (by omega)]
  · rw [hsf j hj]; rfl
  · rw [hsf j hj]; rfl
  · rw [← hI, m0 8 670 (by omega), hJ 30 _ rfl]; exact f4 j hj

/-! ===== the class: its reader ===== -/
/-- a TextReader: itself and what lies behind it -/
def ax_Rd (G : ax_G) (a : Nat) : Prop := a + 50 ≤ ax_top G ∧ ax_At G a tX9
theorem ax_Rd.fld {G : ax_G} {a : Nat} (h : ax_Rd G a) : ax_K G a = 8 + 9 ∧ ax_N G a = 0 ∧ ∀ q ∈ [(9, 4), (8, 3), (7, 2), (0, 1)], ax_R G a q.1 = some (a + q.2) := h.2 0 (17, 0, [(9, 4), (8, 3), (7, 2), (0, 1)]) (by decide +kernel)
theorem ax_Rd.tape {G : ax_G} {a : Nat} (h : ax_Rd G a) : a + 1 < ax_top G ∧ ax_K G (a + 1) = 0 ∧ ax_N G (a + 1) = 100 := ⟨by have := h.1; omega, (h.2 1 (0, 100, []) (by decide +kernel)).1, (h.2 1 (0, 100, []) (by decide +kernel)).2.1⟩
theorem ax_Rd.sums_ {G : ax_G} {a : Nat} (h : ax_Rd G a) : a + 2 < ax_top G ∧ ax_K G (a + 2) = 4 ∧ ax_N G (a + 2) = 5 := ⟨by have := h.1; omega, (h.2 2 (4, 5, [(4, 41), (3, 32), (2, 23), (1, 14), (0, 5)]) (by decide +kernel)).1, (h.2 2 (4, 5, [(4, 41), (3, 32), (2, 23), (1, 14), (0, 5)]) (by decide +kernel)).2.1⟩
theorem ax_Rd.sums {G : ax_G} {a k : Nat} (h : ax_Rd G a) (hk : k < 5) : ax_R G (a + 2) k = some (a + (5 + 9 * k)) ∧ ax_Tb2 G (a + (5 + 9 * k)) (a + (6 + 9 * k)) (a + (7 + 9 * k)) := by
  rcases (show k = 0 ∨ k = 1 ∨ k = 2 ∨ k = 3 ∨ k = 4 by omega) with rfl | rfl | rfl | rfl | rfl
  · exact ⟨(h.2 2 (4, 5, [(4, 41), (3, 32), (2, 23), (1, 14), (0, 5)]) (by decide +kernel)).2.2 (0, 5) (by decide), ⟨by have := h.1; omega, (h.2 5 (16, 0, [(3, 7), (2, 6)]) (by decide +kernel)).1, (h.2 5 (16, 0, [(3, 7), (2, 6)]) (by decide +kernel)).2.2 (2, 6) (by decide), by have := h.1; omega, (h.2 6 (2, 9, []) (by decide +kernel)).1, (h.2 6 (2, 9, []) (by decide +kernel)).2.1⟩, (h.2 5 (16, 0, [(3, 7), (2, 6)]) (by decide +kernel)).2.2 (3, 7) (by decide), ⟨by have := h.1; omega, (h.2 7 (2, 3, []) (by decide +kernel)).1, (h.2 7 (2, 3, []) (by decide +kernel)).2.1⟩, by omega⟩
  · exact ⟨(h.2 2 (4, 5, [(4, 41), (3, 32), (2, 23), (1, 14), (0, 5)]) (by decide +kernel)).2.2 (1, 14) (by decide), ⟨by have := h.1; omega, (h.2 14 (16, 0, [(3, 16), (2, 15)]) (by decide +kernel)).1, (h.2 14 (16, 0, [(3, 16), (2, 15)]) (by decide +kernel)).2.2 (2, 15) (by decide), by have := h.1; omega, (h.2 15 (2, 9, []) (by decide +kernel)).1, (h.2 15 (2, 9, []) (by decide +kernel)).2.1⟩, (h.2 14 (16, 0, [(3, 16), (2, 15)]) (by decide +kernel)).2.2 (3, 16) (by decide), ⟨by have := h.1; omega, (h.2 16 (2, 3, []) (by decide +kernel)).1, (h.2 16 (2, 3, []) (by decide +kernel)).2.1⟩, by omega⟩
  · exact ⟨(h.2 2 (4, 5, [(4, 41), (3, 32), (2, 23), (1, 14), (0, 5)]) (by decide +kernel)).2.2 (2, 23) (by decide), ⟨by have := h.1; omega, (h.2 23 (16, 0, [(3, 25), (2, 24)]) (by decide +kernel)).1, (h.2 23 (16, 0, [(3, 25), (2, 24)]) (by decide +kernel)).2.2 (2, 24) (by decide), by have := h.1; omega, (h.2 24 (2, 9, []) (by decide +kernel)).1, (h.2 24 (2, 9, []) (by decide +kernel)).2.1⟩, (h.2 23 (16, 0, [(3, 25), (2, 24)]) (by decide +kernel)).2.2 (3, 25) (by decide), ⟨by have := h.1; omega, (h.2 25 (2, 3, []) (by decide +kernel)).1, (h.2 25 (2, 3, []) (by decide +kernel)).2.1⟩, by omega⟩
  · exact ⟨(h.2 2 (4, 5, [(4, 41), (3, 32), (2, 23), (1, 14), (0, 5)]) (by decide +kernel)).2.2 (3, 32) (by decide), ⟨by have := h.1; omega, (h.2 32 (16, 0, [(3, 34), (2, 33)]) (by decide +kernel)).1, (h.2 32 (16, 0, [(3, 34), (2, 33)]) (by decide +kernel)).2.2 (2, 33) (by decide), by have := h.1; omega, (h.2 33 (2, 9, []) (by decide +kernel)).1, (h.2 33 (2, 9, []) (by decide +kernel)).2.1⟩, (h.2 32 (16, 0, [(3, 34), (2, 33)]) (by decide +kernel)).2.2 (3, 34) (by decide), ⟨by have := h.1; omega, (h.2 34 (2, 3, []) (by decide +kernel)).1, (h.2 34 (2, 3, []) (by decide +kernel)).2.1⟩, by omega⟩
  · exact ⟨(h.2 2 (4, 5, [(4, 41), (3, 32), (2, 23), (1, 14), (0, 5)]) (by decide +kernel)).2.2 (4, 41) (by decide), ⟨by have := h.1; omega, (h.2 41 (16, 0, [(3, 43), (2, 42)]) (by decide +kernel)).1, (h.2 41 (16, 0, [(3, 43), (2, 42)]) (by decide +kernel)).2.2 (2, 42) (by decide), by have := h.1; omega, (h.2 42 (2, 9, []) (by decide +kernel)).1, (h.2 42 (2, 9, []) (by decide +kernel)).2.1⟩, (h.2 41 (16, 0, [(3, 43), (2, 42)]) (by decide +kernel)).2.2 (3, 43) (by decide), ⟨by have := h.1; omega, (h.2 43 (2, 3, []) (by decide +kernel)).1, (h.2 43 (2, 3, []) (by decide +kernel)).2.1⟩, by omega⟩
theorem ax_Rd.chains_ {G : ax_G} {a : Nat} (h : ax_Rd G a) : a + 3 < ax_top G ∧ ax_K G (a + 3) = 4 ∧ ax_N G (a + 3) = 5 := ⟨by have := h.1; omega, (h.2 3 (4, 5, [(4, 44), (3, 35), (2, 26), (1, 17), (0, 8)]) (by decide +kernel)).1, (h.2 3 (4, 5, [(4, 44), (3, 35), (2, 26), (1, 17), (0, 8)]) (by decide +kernel)).2.1⟩
theorem ax_Rd.chains {G : ax_G} {a k : Nat} (h : ax_Rd G a) (hk : k < 5) : ax_R G (a + 3) k = some (a + (8 + 9 * k)) ∧ ax_Tb2 G (a + (8 + 9 * k)) (a + (9 + 9 * k)) (a + (10 + 9 * k)) := by
  rcases (show k = 0 ∨ k = 1 ∨ k = 2 ∨ k = 3 ∨ k = 4 by omega) with rfl | rfl | rfl | rfl | rfl
  · exact ⟨(h.2 3 (4, 5, [(4, 44), (3, 35), (2, 26), (1, 17), (0, 8)]) (by decide +kernel)).2.2 (0, 8) (by decide), ⟨by have := h.1; omega, (h.2 8 (16, 0, [(3, 10), (2, 9)]) (by decide +kernel)).1, (h.2 8 (16, 0, [(3, 10), (2, 9)]) (by decide +kernel)).2.2 (2, 9) (by decide), by have := h.1; omega, (h.2 9 (2, 9, []) (by decide +kernel)).1, (h.2 9 (2, 9, []) (by decide +kernel)).2.1⟩, (h.2 8 (16, 0, [(3, 10), (2, 9)]) (by decide +kernel)).2.2 (3, 10) (by decide), ⟨by have := h.1; omega, (h.2 10 (2, 3, []) (by decide +kernel)).1, (h.2 10 (2, 3, []) (by decide +kernel)).2.1⟩, by omega⟩
  · exact ⟨(h.2 3 (4, 5, [(4, 44), (3, 35), (2, 26), (1, 17), (0, 8)]) (by decide +kernel)).2.2 (1, 17) (by decide), ⟨by have := h.1; omega, (h.2 17 (16, 0, [(3, 19), (2, 18)]) (by decide +kernel)).1, (h.2 17 (16, 0, [(3, 19), (2, 18)]) (by decide +kernel)).2.2 (2, 18) (by decide), by have := h.1; omega, (h.2 18 (2, 9, []) (by decide +kernel)).1, (h.2 18 (2, 9, []) (by decide +kernel)).2.1⟩, (h.2 17 (16, 0, [(3, 19), (2, 18)]) (by decide +kernel)).2.2 (3, 19) (by decide), ⟨by have := h.1; omega, (h.2 19 (2, 3, []) (by decide +kernel)).1, (h.2 19 (2, 3, []) (by decide +kernel)).2.1⟩, by omega⟩
  · exact ⟨(h.2 3 (4, 5, [(4, 44), (3, 35), (2, 26), (1, 17), (0, 8)]) (by decide +kernel)).2.2 (2, 26) (by decide), ⟨by have := h.1; omega, (h.2 26 (16, 0, [(3, 28), (2, 27)]) (by decide +kernel)).1, (h.2 26 (16, 0, [(3, 28), (2, 27)]) (by decide +kernel)).2.2 (2, 27) (by decide), by have := h.1; omega, (h.2 27 (2, 9, []) (by decide +kernel)).1, (h.2 27 (2, 9, []) (by decide +kernel)).2.1⟩, (h.2 26 (16, 0, [(3, 28), (2, 27)]) (by decide +kernel)).2.2 (3, 28) (by decide), ⟨by have := h.1; omega, (h.2 28 (2, 3, []) (by decide +kernel)).1, (h.2 28 (2, 3, []) (by decide +kernel)).2.1⟩, by omega⟩
  · exact ⟨(h.2 3 (4, 5, [(4, 44), (3, 35), (2, 26), (1, 17), (0, 8)]) (by decide +kernel)).2.2 (3, 35) (by decide), ⟨by have := h.1; omega, (h.2 35 (16, 0, [(3, 37), (2, 36)]) (by decide +kernel)).1, (h.2 35 (16, 0, [(3, 37), (2, 36)]) (by decide +kernel)).2.2 (2, 36) (by decide), by have := h.1; omega, (h.2 36 (2, 9, []) (by decide +kernel)).1, (h.2 36 (2, 9, []) (by decide +kernel)).2.1⟩, (h.2 35 (16, 0, [(3, 37), (2, 36)]) (by decide +kernel)).2.2 (3, 37) (by decide), ⟨by have := h.1; omega, (h.2 37 (2, 3, []) (by decide +kernel)).1, (h.2 37 (2, 3, []) (by decide +kernel)).2.1⟩, by omega⟩
  · exact ⟨(h.2 3 (4, 5, [(4, 44), (3, 35), (2, 26), (1, 17), (0, 8)]) (by decide +kernel)).2.2 (4, 44) (by decide), ⟨by have := h.1; omega, (h.2 44 (16, 0, [(3, 46), (2, 45)]) (by decide +kernel)).1, (h.2 44 (16, 0, [(3, 46), (2, 45)]) (by decide +kernel)).2.2 (2, 45) (by decide), by have := h.1; omega, (h.2 45 (2, 9, []) (by decide +kernel)).1, (h.2 45 (2, 9, []) (by decide +kernel)).2.1⟩, (h.2 44 (16, 0, [(3, 46), (2, 45)]) (by decide +kernel)).2.2 (3, 46) (by decide), ⟨by have := h.1; omega, (h.2 46 (2, 3, []) (by decide +kernel)).1, (h.2 46 (2, 3, []) (by decide +kernel)).2.1⟩, by omega⟩
theorem ax_Rd.ones_ {G : ax_G} {a : Nat} (h : ax_Rd G a) : a + 4 < ax_top G ∧ ax_K G (a + 4) = 4 ∧ ax_N G (a + 4) = 5 := ⟨by have := h.1; omega, (h.2 4 (4, 5, [(4, 47), (3, 38), (2, 29), (1, 20), (0, 11)]) (by decide +kernel)).1, (h.2 4 (4, 5, [(4, 47), (3, 38), (2, 29), (1, 20), (0, 11)]) (by decide +kernel)).2.1⟩
theorem ax_Rd.ones {G : ax_G} {a k : Nat} (h : ax_Rd G a) (hk : k < 5) : ax_R G (a + 4) k = some (a + (11 + 9 * k)) ∧ ax_Tb2 G (a + (11 + 9 * k)) (a + (12 + 9 * k)) (a + (13 + 9 * k)) := by
  rcases (show k = 0 ∨ k = 1 ∨ k = 2 ∨ k = 3 ∨ k = 4 by omega) with rfl | rfl | rfl | rfl | rfl
  · exact ⟨(h.2 4 (4, 5, [(4, 47), (3, 38), (2, 29), (1, 20), (0, 11)]) (by decide +kernel)).2.2 (0, 11) (by decide), ⟨by have := h.1; omega, (h.2 11 (16, 0, [(3, 13), (2, 12)]) (by decide +kernel)).1, (h.2 11 (16, 0, [(3, 13), (2, 12)]) (by decide +kernel)).2.2 (2, 12) (by decide), by have := h.1; omega, (h.2 12 (2, 9, []) (by decide +kernel)).1, (h.2 12 (2, 9, []) (by decide +kernel)).2.1⟩, (h.2 11 (16, 0, [(3, 13), (2, 12)]) (by decide +kernel)).2.2 (3, 13) (by decide), ⟨by have := h.1; omega, (h.2 13 (2, 3, []) (by decide +kernel)).1, (h.2 13 (2, 3, []) (by decide +kernel)).2.1⟩, by omega⟩
  · exact ⟨(h.2 4 (4, 5, [(4, 47), (3, 38), (2, 29), (1, 20), (0, 11)]) (by decide +kernel)).2.2 (1, 20) (by decide), ⟨by have := h.1; omega, (h.2 20 (16, 0, [(3, 22), (2, 21)]) (by decide +kernel)).1, (h.2 20 (16, 0, [(3, 22), (2, 21)]) (by decide +kernel)).2.2 (2, 21) (by decide), by have := h.1; omega, (h.2 21 (2, 9, []) (by decide +kernel)).1, (h.2 21 (2, 9, []) (by decide +kernel)).2.1⟩, (h.2 20 (16, 0, [(3, 22), (2, 21)]) (by decide +kernel)).2.2 (3, 22) (by decide), ⟨by have := h.1; omega, (h.2 22 (2, 3, []) (by decide +kernel)).1, (h.2 22 (2, 3, []) (by decide +kernel)).2.1⟩, by omega⟩
  · exact ⟨(h.2 4 (4, 5, [(4, 47), (3, 38), (2, 29), (1, 20), (0, 11)]) (by decide +kernel)).2.2 (2, 29) (by decide), ⟨by have := h.1; omega, (h.2 29 (16, 0, [(3, 31), (2, 30)]) (by decide +kernel)).1, (h.2 29 (16, 0, [(3, 31), (2, 30)]) (by decide +kernel)).2.2 (2, 30) (by decide), by have := h.1; omega, (h.2 30 (2, 9, []) (by decide +kernel)).1, (h.2 30 (2, 9, []) (by decide +kernel)).2.1⟩, (h.2 29 (16, 0, [(3, 31), (2, 30)]) (by decide +kernel)).2.2 (3, 31) (by decide), ⟨by have := h.1; omega, (h.2 31 (2, 3, []) (by decide +kernel)).1, (h.2 31 (2, 3, []) (by decide +kernel)).2.1⟩, by omega⟩
  · exact ⟨(h.2 4 (4, 5, [(4, 47), (3, 38), (2, 29), (1, 20), (0, 11)]) (by decide +kernel)).2.2 (3, 38) (by decide), ⟨by have := h.1; omega, (h.2 38 (16, 0, [(3, 40), (2, 39)]) (by decide +kernel)).1, (h.2 38 (16, 0, [(3, 40), (2, 39)]) (by decide +kernel)).2.2 (2, 39) (by decide), by have := h.1; omega, (h.2 39 (2, 9, []) (by decide +kernel)).1, (h.2 39 (2, 9, []) (by decide +kernel)).2.1⟩, (h.2 38 (16, 0, [(3, 40), (2, 39)]) (by decide +kernel)).2.2 (3, 40) (by decide), ⟨by have := h.1; omega, (h.2 40 (2, 3, []) (by decide +kernel)).1, (h.2 40 (2, 3, []) (by decide +kernel)).2.1⟩, by omega⟩
  · exact ⟨(h.2 4 (4, 5, [(4, 47), (3, 38), (2, 29), (1, 20), (0, 11)]) (by decide +kernel)).2.2 (4, 47) (by decide), ⟨by have := h.1; omega, (h.2 47 (16, 0, [(3, 49), (2, 48)]) (by decide +kernel)).1, (h.2 47 (16, 0, [(3, 49), (2, 48)]) (by decide +kernel)).2.2 (2, 48) (by decide), by have := h.1; omega, (h.2 48 (2, 9, []) (by decide +kernel)).1, (h.2 48 (2, 9, []) (by decide +kernel)).2.1⟩, (h.2 47 (16, 0, [(3, 49), (2, 48)]) (by decide +kernel)).2.2 (3, 49) (by decide), ⟨by have := h.1; omega, (h.2 49 (2, 3, []) (by decide +kernel)).1, (h.2 49 (2, 3, []) (by decide +kernel)).2.1⟩, by omega⟩
theorem ax_Cls.rd {G : ax_G} {a : Nat} (h : ax_Cls G a) : ax_Rd G (a + 311) := by
  have k2 : ((List.range 50).all fun j => decide (tX10[311 + j]? = (ax_shf 311 tX9)[j]?)) = true := by decide +kernel
  have hl : tX9.length = 50 := by decide +kernel
  exact ⟨by have := h.1; omega, h.2.part fun j hj => of_decide_eq_true (List.all_eq_true.mp k2 j (List.mem_range.mpr (by omega)))⟩
theorem ax_u_cm {α : Type} {f : Nat → Nat → α} {a j b k : Nat} {v x : α} (h : a ≠ b) : ax_u (ax_u f a j v) b k x = ax_u (ax_u f b k x) a j v := by
  funext c i; unfold ax_u
  by_cases hb : c = b
  · rw [if_pos hb, if_neg (by omega : ¬ c = a), if_neg (by omega : ¬ c = a), if_pos hb]
  · rw [if_neg hb, if_neg hb]
/-- so many bytes come to the tape of reader r, from place c on -/
def ax_ttp (r c : Nat) (e : Int64) : Nat → ax_I → ax_I
  | 0, J => J
  | n + 1, J => ax_u (ax_ttp r c e n J) (r + 1) (c + n) ((e.toUInt64 >>> ((nI (8 * n)).toInt64.toUInt64 &&& Int64.toUInt64 63)).toInt64.toInt32 &&& nI 255)
set_option maxRecDepth 20000 in
/-- take(eight, n) -/
theorem k_X9_take (l : Launch) (D : va_G) (T : Nat → ClassId) (o d : Nat) (G : ax_G) (I : ax_I) (L : ax_L) (r c n : Nat) (e : Int64) (hR : ax_Rd G r) (hc : I r 1 = nI c) (hn : c + n ≤ 100) : ax_Con l D T o yX9_take cX9_take 5 none d 0 0 [.ref r, .long e, .int (nI n)] G I L (fun z G' I' L' => z = none ∧ G = G' ∧ ax_u (ax_ttp r c e n I) r 1 (nI (c + n)) = I' ∧ L = L') := by
  refine ax_enter (by decide +kernel) (Nat.le_of_ble_eq_true rfl) ?_
  intro p_ e_ s_ m_ args_ below_ meth_ c_ C _
  refine x_lvs (lv' := [(0, .ref r), (1, .long e), (3, .int (nI n))]) rfl ?_
  have hloop : ∀ (n_ k : Nat), k + n_ = n → ax_XM p_ l e_ s_ m_ args_ below_ meth_ c_ 5 D T o d 0 0 G (fun z G' I' L' => z = none ∧ G = G' ∧ ax_u (ax_ttp r c e n I) r 1 (nI (c + n)) = I' ∧ L = L') G (ax_u (ax_ttp r c e k I) r 1 (nI (c + k))) L 3 [(4, .int (nI k)), (0, .ref r), (1, .long e), (3, .int (nI n))] [] := by
    intro n_
    induction n_ with
    | zero =>
      intro k hk_
      rw [show k = n by omega]
      refine x_iload C (dk ddX9_take 2 rfl) rfl ?_
      refine x_iload_n C (dk ddX9_take 3 rfl) rfl ?_
      refine x_icmp_ge_n C (tgt := 55) (dk ddX9_take 4 rfl) (by decide) (by omega) (by omega) (fun h6 => ?_) (fun h6 => ?_)
      · exact x_vret C rfl ⟨rfl, rfl, rfl, rfl⟩ rfl rfl (dk ddX9_take 30 rfl)
      · exfalso
        omega
    | succ n_ ih_ =>
      intro k hk_
      refine x_iload C (dk ddX9_take 2 rfl) rfl ?_
      refine x_iload_n C (dk ddX9_take 3 rfl) rfl ?_
      refine x_icmp_ge_n C (tgt := 55) (dk ddX9_take 4 rfl) (by decide) (by omega) (by omega) (fun h6 => ?_) (fun h6 => ?_)
      · exfalso
        omega
      · refine x_aload_n C (dk ddX9_take 5 rfl) rfl ?_
        refine x_geti C flX9_15 rfl (by have h_ := hR.1; omega) hR.fld.1 (dk ddX9_take 6 rfl) ?_
        rw [show ((ax_u (ax_ttp r c e k I) r 1 (nI (c + k))) r 1) = nI (c + k) from (by first | exact ax_u_at _ _ _ _ | (rw [ax_u_ne (by omega)]; exact ax_u_at _ _ _ _))]
        refine x_bipush C (v := nI 100) (dk ddX9_take 7 rfl) (by decide) ?_
        refine x_icmp_ge_n C (tgt := 55) (dk ddX9_take 8 rfl) (by decide) (by omega) (by decide) (fun h15 => ?_) (fun h15 => ?_)
        · exfalso
          omega
        · refine x_aload_n C (dk ddX9_take 9 rfl) rfl ?_
          refine x_getr C flX9_9 rfl (by have h_ := hR.1; omega) hR.fld.1 (show ax_R G r 0 = some (r + 1) from hR.fld.2.2 (0, 1) (by decide)) (dk ddX9_take 10 rfl) ?_
          refine x_aload_n C (dk ddX9_take 11 rfl) rfl ?_
          refine x_geti C flX9_15 rfl (by have h_ := hR.1; omega) hR.fld.1 (dk ddX9_take 12 rfl) ?_
          rw [show ((ax_u (ax_ttp r c e k I) r 1 (nI (c + k))) r 1) = nI (c + k) from (by first | exact ax_u_at _ _ _ _ | (rw [ax_u_ne (by omega)]; exact ax_u_at _ _ _ _))]
          refine x_lload_n C (dk ddX9_take 13 rfl) rfl ?_
          refine x_bipush C (v := nI 8) (dk ddX9_take 14 rfl) (by decide) ?_
          refine x_iload C (dk ddX9_take 15 rfl) rfl ?_
          refine x_imul_n C (dk ddX9_take 16 rfl) ?_
          refine x_lushr C (dk ddX9_take 17 rfl) ?_
          refine x_l2i C (dk ddX9_take 18 rfl) ?_
          refine x_sipush C (v := nI 255) (dk ddX9_take 19 rfl) (by decide) ?_
          refine x_iand C (dk ddX9_take 20 rfl) ?_
          refine x_iast_n C hR.tape.1 hR.tape.2.1 hR.tape.2.2 (by omega) (by decide) (dk ddX9_take 21 rfl) ?_
          refine x_aload_n C (dk ddX9_take 22 rfl) rfl ?_
          refine x_dup C (dk ddX9_take 23 rfl) rfl ?_
          refine x_geti C flX9_15 rfl (by have h_ := hR.1; omega) hR.fld.1 (dk ddX9_take 24 rfl) ?_
          rw [show ((ax_u (ax_u (ax_ttp r c e k I) r 1 (nI (c + k))) (r + 1) (c + k) ((((e.toUInt64 >>> ((nI (8 * k)).toInt64.toUInt64 &&& Int64.toUInt64 63)).toInt64).toInt32) &&& (nI 255))) r 1) = nI (c + k) from (by first | exact ax_u_at _ _ _ _ | (rw [ax_u_ne (by omega)]; exact ax_u_at _ _ _ _))]
          refine x_iconst C (v := nI 1) (dk ddX9_take 25 rfl) (by decide) ?_
          refine x_iadd_n C (dk ddX9_take 26 rfl) ?_
          refine x_puti C flX9_15 fw9 rfl rfl (by have h_ := hR.1; omega) hR.fld.1 rfl rfl (dk ddX9_take 27 rfl) ?_
          refine x_iinc C (v := nI (k + 1)) (lv' := [(4, .int (nI (k + 1))), (0, .ref r), (1, .long e), (3, .int (nI n))]) (dk ddX9_take 28 rfl) rfl (nI_add k 1) (by decide) rfl ?_
          refine x_goto C (tgt := 3) (dk ddX9_take 29 rfl) (by decide) ?_
          rw [ax_u_cm (show r ≠ r + 1 by omega), ax_u_u]
          refine x_sub [0, 1, 2, 3] (lv' := [(4, .int (nI (k + 1))), (0, .ref r), (1, .long e), (3, .int (nI n))]) rfl ?_
          exact ih_ (k + 1) (by omega)
  refine x_iconst C (v := nI 0) (dk ddX9_take 0 rfl) (by decide) ?_
  refine x_istore C (lv' := [(4, .int (nI 0)), (0, .ref r), (1, .long e), (3, .int (nI n))]) (dk ddX9_take 1 rfl) (by decide) rfl ?_
  have h_ := hloop n 0 (by omega)
  rw [show ax_u (ax_ttp r c e 0 I) r 1 (nI (c + 0)) = I from ax_u_self hc] at h_
  exact h_
set_option maxRecDepth 20000 in
/-- feed, refused -/
theorem k_X10_feed_bad (l : Launch) (D : va_G) (T : Nat → ClassId) (o d : Nat) (G : ax_G) (I : ax_I) (L : ax_L) (a : Nat) (e : Int64) (n : Int32) (hC : ax_Cls G a) (hbad : n < nI 1 ∨ nI 8 < n) (hd : 3 ≤ d) : ax_Con l D T o yX10_feed cX10_feed 4 (some .int) d 0 0 [.ref a, .long e, .int n] G I L (fun zz G' I' L' => zz = some (.int ((-1))) ∧ G = G' ∧ I = I' ∧ L = L') := by
  refine ax_enter (by decide +kernel) (Nat.le_of_ble_eq_true rfl) ?_
  intro p_ e_ s_ m_ args_ below_ meth_ c_ C _
  refine x_lvs (lv' := [(0, .ref a), (1, .long e), (3, .int n)]) rfl ?_
  refine x_iload_n C (dk ddX10_feed 0 rfl) rfl ?_
  refine x_iconst C (v := nI 1) (dk ddX10_feed 1 rfl) (by decide) ?_
  refine x_icmp_lt C (tgt := 11) (dk ddX10_feed 2 rfl) (by decide) (fun h2 => ?_) (fun h2 => ?_)
  · have h2c := Int32.not_le.mpr h2
    refine x_iconst C (v := (-1)) (dk ddX10_feed 6 rfl) (by decide) ?_
    exact x_iret C rfl ⟨rfl, rfl, rfl, rfl⟩ rfl rfl (dk ddX10_feed 7 rfl)
  · have h2c := Int32.not_lt.mp h2
    refine x_iload_n C (dk ddX10_feed 3 rfl) rfl ?_
    refine x_bipush C (v := nI 8) (dk ddX10_feed 4 rfl) (by decide) ?_
    refine x_icmp_le C (tgt := 13) (dk ddX10_feed 5 rfl) (by decide) (fun h8 => ?_) (fun h8 => ?_)
    · have h8c := Int32.not_lt.mpr h8
      exfalso
      rcases hbad with hq_ | hq_ <;> first | exact absurd hq_ (by assumption) | (simp_all; done)
    · have h8c := Int32.not_le.mp h8
      refine x_iconst C (v := (-1)) (dk ddX10_feed 6 rfl) (by decide) ?_
      exact x_iret C rfl ⟨rfl, rfl, rfl, rfl⟩ rfl rfl (dk ddX10_feed 7 rfl)
set_option maxRecDepth 20000 in
/-- feed, full -/
theorem k_X10_feed_full (l : Launch) (D : va_G) (T : Nat → ClassId) (o d : Nat) (G : ax_G) (I : ax_I) (L : ax_L) (a c n : Nat) (e : Int64) (hC : ax_Cls G a) (hc : I (a + 311) 1 = nI c) (hc1 : c ≤ 100) (hn : 1 ≤ n) (hn8 : n ≤ 8) (hf : 100 < c + n) (hd : 3 ≤ d) : ax_Con l D T o yX10_feed cX10_feed 4 (some .int) d 0 0 [.ref a, .long e, .int (nI n)] G I L (fun zz G' I' L' => zz = some (.int ((-2))) ∧ G = G' ∧ I = I' ∧ L = L') := by
  refine ax_enter (by decide +kernel) (Nat.le_of_ble_eq_true rfl) ?_
  intro p_ e_ s_ m_ args_ below_ meth_ c_ C _
  refine x_lvs (lv' := [(0, .ref a), (1, .long e), (3, .int (nI n))]) rfl ?_
  refine x_iload_n C (dk ddX10_feed 0 rfl) rfl ?_
  refine x_iconst C (v := nI 1) (dk ddX10_feed 1 rfl) (by decide) ?_
  refine x_icmp_lt_n C (tgt := 11) (dk ddX10_feed 2 rfl) (by decide) (by omega) (by decide) (fun h2 => ?_) (fun h2 => ?_)
  · exfalso
    omega
  · refine x_iload_n C (dk ddX10_feed 3 rfl) rfl ?_
    refine x_bipush C (v := nI 8) (dk ddX10_feed 4 rfl) (by decide) ?_
    refine x_icmp_le_n C (tgt := 13) (dk ddX10_feed 5 rfl) (by decide) (by omega) (by decide) (fun h8 => ?_) (fun h8 => ?_)
    · refine x_aload_n C (dk ddX10_feed 8 rfl) rfl ?_
      refine x_getr C flX10_33 rfl (by have h_ := hC.1; omega) hC.fld.1 (show ax_R G a 4 = some (a + 311) from hC.fld.2.2 (4, 311) (by decide)) (dk ddX10_feed 9 rfl) ?_
      refine x_geti C flX10_266 rfl (by have h_ := hC.rd.1; omega) hC.rd.fld.1 (dk ddX10_feed 10 rfl) ?_
      rw [show (I (a + 311) 1) = nI c from hc]
      refine x_iload_n C (dk ddX10_feed 11 rfl) rfl ?_
      refine x_iadd_n C (dk ddX10_feed 12 rfl) ?_
      refine x_bipush C (v := nI 100) (dk ddX10_feed 13 rfl) (by decide) ?_
      refine x_icmp_le_n C (tgt := 30) (dk ddX10_feed 14 rfl) (by decide) (by omega) (by decide) (fun h24 => ?_) (fun h24 => ?_)
      · exfalso
        omega
      · refine x_bipush C (v := (-2)) (dk ddX10_feed 15 rfl) (by decide) ?_
        exact x_iret C rfl ⟨rfl, rfl, rfl, rfl⟩ rfl rfl (dk ddX10_feed 16 rfl)
    · exfalso
      omega
set_option maxRecDepth 20000 in
/-- feed(e, n) -/
theorem k_X10_feed (l : Launch) (D : va_G) (T : Nat → ClassId) (o d : Nat) (G : ax_G) (I : ax_I) (L : ax_L) (a c n : Nat) (e : Int64) (hC : ax_Cls G a) (hc : I (a + 311) 1 = nI c) (hc1 : c ≤ 100) (hn : 1 ≤ n) (hn8 : n ≤ 8) (hf : c + n ≤ 100) (hd : 3 ≤ d) : ax_Con l D T o yX10_feed cX10_feed 4 (some .int) d 0 0 [.ref a, .long e, .int (nI n)] G I L (fun zz G' I' L' => zz = some (.int (nI (c + n))) ∧ G = G' ∧ (ax_u (ax_ttp (a + 311) c e n I) (a + 311) 1 (nI (c + n))) = I' ∧ L = L') := by
  refine ax_enter (by decide +kernel) (Nat.le_of_ble_eq_true rfl) ?_
  intro p_ e_ s_ m_ args_ below_ meth_ c_ C _
  refine x_lvs (lv' := [(0, .ref a), (1, .long e), (3, .int (nI n))]) rfl ?_
  refine x_iload_n C (dk ddX10_feed 0 rfl) rfl ?_
  refine x_iconst C (v := nI 1) (dk ddX10_feed 1 rfl) (by decide) ?_
  refine x_icmp_lt_n C (tgt := 11) (dk ddX10_feed 2 rfl) (by decide) (by omega) (by decide) (fun h2 => ?_) (fun h2 => ?_)
  · exfalso
    omega
  · refine x_iload_n C (dk ddX10_feed 3 rfl) rfl ?_
    refine x_bipush C (v := nI 8) (dk ddX10_feed 4 rfl) (by decide) ?_
    refine x_icmp_le_n C (tgt := 13) (dk ddX10_feed 5 rfl) (by decide) (by omega) (by decide) (fun h8 => ?_) (fun h8 => ?_)
    · refine x_aload_n C (dk ddX10_feed 8 rfl) rfl ?_
      refine x_getr C flX10_33 rfl (by have h_ := hC.1; omega) hC.fld.1 (show ax_R G a 4 = some (a + 311) from hC.fld.2.2 (4, 311) (by decide)) (dk ddX10_feed 9 rfl) ?_
      refine x_geti C flX10_266 rfl (by have h_ := hC.rd.1; omega) hC.rd.fld.1 (dk ddX10_feed 10 rfl) ?_
      rw [show (I (a + 311) 1) = nI c from hc]
      refine x_iload_n C (dk ddX10_feed 11 rfl) rfl ?_
      refine x_iadd_n C (dk ddX10_feed 12 rfl) ?_
      refine x_bipush C (v := nI 100) (dk ddX10_feed 13 rfl) (by decide) ?_
      refine x_icmp_le_n C (tgt := 30) (dk ddX10_feed 14 rfl) (by decide) (by omega) (by decide) (fun h24 => ?_) (fun h24 => ?_)
      · refine x_aload_n C (dk ddX10_feed 17 rfl) rfl ?_
        refine x_getr C flX10_33 rfl (by have h_ := hC.1; omega) hC.fld.1 (show ax_R G a 4 = some (a + 311) from hC.fld.2.2 (4, 311) (by decide)) (dk ddX10_feed 18 rfl) ?_
        refine x_lload_n C (dk ddX10_feed 19 rfl) rfl ?_
        refine x_iload_n C (dk ddX10_feed 20 rfl) rfl ?_
        refine x_callV C (ci := 9) (As := [.long e, .int (nI n)]) (k_X9_take l D T o (d - 1) G I L (a + 311) c n e hC.rd hc (by omega)) mlX10_270 rfl rfl (by have h_ := hC.rd.1; omega) hC.rd.fld.1 ⟨by show d - 1 + 1 ≤ d; omega, by show 40 * (d - 1 + 1) ≤ 40 * d; omega⟩ ⟨Nat.le_refl _, Nat.le_refl _⟩ rfl (Nat.le_of_ble_eq_true rfl) (dk ddX10_feed 21 rfl) ?_
        rintro v_ G_ I_ L_ ⟨rfl, rfl, rfl, rfl⟩
        refine x_aload_n C (dk ddX10_feed 22 rfl) rfl ?_
        refine x_getr C flX10_33 rfl (by have h_ := hC.1; omega) hC.fld.1 (show ax_R G a 4 = some (a + 311) from hC.fld.2.2 (4, 311) (by decide)) (dk ddX10_feed 23 rfl) ?_
        refine x_geti C flX10_266 rfl (by have h_ := hC.rd.1; omega) hC.rd.fld.1 (dk ddX10_feed 24 rfl) ?_
        rw [show ((ax_u (ax_ttp (a + 311) c e n I) (a + 311) 1 (nI (c + n))) (a + 311) 1) = nI (c + n) from ax_u_at _ _ _ _]
        exact x_iret C rfl ⟨rfl, rfl, rfl, rfl⟩ rfl rfl (dk ddX10_feed 25 rfl)
      · exfalso
        omega
    · exfalso
      omega

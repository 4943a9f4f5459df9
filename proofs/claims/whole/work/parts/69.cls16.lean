/-! ===== the class: its Lattices; step ===== -/
theorem ax_Lat_of {G : ax_G} {a : Nat} (ht : a + 9 ≤ ax_top G) (h : ax_At G a tX2) : ax_Lat G a := by
  refine ⟨ht, (h 0 (10, 0, [(1, 8), (0, 1)]) (by decide +kernel)).1, (h 0 (10, 0, [(1, 8), (0, 1)]) (by decide +kernel)).2.2 (0, 1) (by decide), (h 0 (10, 0, [(1, 8), (0, 1)]) (by decide +kernel)).2.2 (1, 8) (by decide), (h 1 (7, 6, [(5, 7), (4, 6), (3, 5), (2, 4), (1, 3), (0, 2)]) (by decide +kernel)).1, (h 1 (7, 6, [(5, 7), (4, 6), (3, 5), (2, 4), (1, 3), (0, 2)]) (by decide +kernel)).2.1, fun i hi => ?_, (h 8 (2, 6, []) (by decide +kernel)).1, (h 8 (2, 6, []) (by decide +kernel)).2.1⟩
  rcases (show i = 0 ∨ i = 1 ∨ i = 2 ∨ i = 3 ∨ i = 4 ∨ i = 5 by omega) with rfl | rfl | rfl | rfl | rfl | rfl
  · exact ⟨(h 1 (7, 6, [(5, 7), (4, 6), (3, 5), (2, 4), (1, 3), (0, 2)]) (by decide +kernel)).2.2 (0, 2) (by decide), (h 2 (2, 6, []) (by decide +kernel)).1, (h 2 (2, 6, []) (by decide +kernel)).2.1⟩
  · exact ⟨(h 1 (7, 6, [(5, 7), (4, 6), (3, 5), (2, 4), (1, 3), (0, 2)]) (by decide +kernel)).2.2 (1, 3) (by decide), (h 3 (2, 6, []) (by decide +kernel)).1, (h 3 (2, 6, []) (by decide +kernel)).2.1⟩
  · exact ⟨(h 1 (7, 6, [(5, 7), (4, 6), (3, 5), (2, 4), (1, 3), (0, 2)]) (by decide +kernel)).2.2 (2, 4) (by decide), (h 4 (2, 6, []) (by decide +kernel)).1, (h 4 (2, 6, []) (by decide +kernel)).2.1⟩
  · exact ⟨(h 1 (7, 6, [(5, 7), (4, 6), (3, 5), (2, 4), (1, 3), (0, 2)]) (by decide +kernel)).2.2 (3, 5) (by decide), (h 5 (2, 6, []) (by decide +kernel)).1, (h 5 (2, 6, []) (by decide +kernel)).2.1⟩
  · exact ⟨(h 1 (7, 6, [(5, 7), (4, 6), (3, 5), (2, 4), (1, 3), (0, 2)]) (by decide +kernel)).2.2 (4, 6) (by decide), (h 6 (2, 6, []) (by decide +kernel)).1, (h 6 (2, 6, []) (by decide +kernel)).2.1⟩
  · exact ⟨(h 1 (7, 6, [(5, 7), (4, 6), (3, 5), (2, 4), (1, 3), (0, 2)]) (by decide +kernel)).2.2 (5, 7) (by decide), (h 7 (2, 6, []) (by decide +kernel)).1, (h 7 (2, 6, []) (by decide +kernel)).2.1⟩
theorem ax_Cls.nothing {G : ax_G} {a : Nat} (h : ax_Cls G a) : ax_Lat G (a + 597) := by
  have k2 : ((List.range 9).all fun j => decide (tX10[597 + j]? = (ax_shf 597 tX2)[j]?)) = true := by decide +kernel
  have hl : tX2.length = 9 := by decide +kernel
  exact ax_Lat_of (by have := h.1; omega) (h.2.part fun j hj => of_decide_eq_true (List.all_eq_true.mp k2 j (List.mem_range.mpr (by omega))))
theorem ax_Cls.wider {G : ax_G} {a : Nat} (h : ax_Cls G a) : ax_Lat G (a + 606) := by
  have k2 : ((List.range 9).all fun j => decide (tX10[606 + j]? = (ax_shf 606 tX2)[j]?)) = true := by decide +kernel
  have hl : tX2.length = 9 := by decide +kernel
  exact ax_Lat_of (by have := h.1; omega) (h.2.part fun j hj => of_decide_eq_true (List.all_eq_true.mp k2 j (List.mem_range.mpr (by omega))))

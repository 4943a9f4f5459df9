/-! ===== the class: MapWork ===== -/
/-- a row comes to Lattice a of width w -/
def ax_inr (a w q : Nat) (L : ax_L) : ax_L := ax_dnr a w w (ax_ins a w w 0 (ax_cp L q (a + 8) 0 0 w))
theorem k_X2_insr (l : Launch) (D : va_G) (T : Nat → ClassId) (o d : Nat) (G : ax_G) (I : ax_I) (L : ax_L) (a w q nq : Nat) (ha : ax_Lat G a) (hw : I a 2 = nI w) (hw6 : w ≤ 6) (hq : ax_La G q nq) (hnq : 6 ≤ nq) (hd : 3 ≤ d) : ax_Con l D T o yX2_insert cX2_insert 2 none d 0 0 [.ref a, .ref q] G I L (fun z G' I' L' => z = none ∧ G = G' ∧ I = I' ∧ ax_inr a w q L = L') := k_X2_insert l D T o d G I L a w q nq ha hw hw6 hq hnq hd
/-- Lattice b becomes what is nothing of group g of n generators with c relations of State a -/
def ax_nth (I : ax_I) (a b g n c : Nat) (L : ax_L) : ax_L := ax_fno (ax_u I b 2 (nI n)) a b g n c (ax_clr b 6 L)
theorem k_X7_fill (l : Launch) (D : va_G) (T : Nat → ClassId) (o d : Nat) (G : ax_G) (I : ax_I) (L : ax_L) (a g b n c : Nat) (ha : ax_Sta G a) (hb : ax_Lat G b) (hab : b + 9 ≤ a ∨ a + 14 ≤ b) (hg : g < 6) (hn : I (a + 1) g = nI n) (hn3 : n ≤ 3) (hc : I (a + 2) g = nI c) (hc4 : c ≤ 4) (hd : 3 ≤ d) : ax_Con l D T o yX7_fillNothing cX7_fillNothing 5 none d 0 0 [.ref a, .int (nI g), .ref b] G I L (fun z G' I' L' => z = none ∧ G = G' ∧ ax_u I b 2 (nI n) = I' ∧ ax_nth I a b g n c L = L') := k_X7_fillNothing l D T o d G I L a g b n c ha hb hab hg hn hn3 hc hc4 hd
/-- a MapWork: itself and what lies behind it -/
def ax_Mw (G : ax_G) (a : Nat) : Prop := a + 57 ≤ ax_top G ∧ ax_At G a tX3
theorem ax_Mw.source {G : ax_G} {a : Nat} (h : ax_Mw G a) : ax_Lat G (a + 1) := by
  have k2 : ((List.range 9).all fun j => decide (tX3[1 + j]? = (ax_shf 1 tX2)[j]?)) = true := by decide +kernel
  have hl : tX2.length = 9 := by decide +kernel
  exact ax_Lat_of (by have := h.1; omega) (h.2.part fun j hj => of_decide_eq_true (List.all_eq_true.mp k2 j (List.mem_range.mpr (by omega))))
theorem ax_Mw.target {G : ax_G} {a : Nat} (h : ax_Mw G a) : ax_Lat G (a + 10) := by
  have k2 : ((List.range 9).all fun j => decide (tX3[10 + j]? = (ax_shf 10 tX2)[j]?)) = true := by decide +kernel
  have hl : tX2.length = 9 := by decide +kernel
  exact ax_Lat_of (by have := h.1; omega) (h.2.part fun j hj => of_decide_eq_true (List.all_eq_true.mp k2 j (List.mem_range.mpr (by omega))))
theorem ax_Mw.reach {G : ax_G} {a : Nat} (h : ax_Mw G a) : ax_Lat G (a + 19) := by
  have k2 : ((List.range 9).all fun j => decide (tX3[19 + j]? = (ax_shf 19 tX2)[j]?)) = true := by decide +kernel
  have hl : tX2.length = 9 := by decide +kernel
  exact ax_Lat_of (by have := h.1; omega) (h.2.part fun j hj => of_decide_eq_true (List.all_eq_true.mp k2 j (List.mem_range.mpr (by omega))))
theorem ax_Mw.kernel {G : ax_G} {a : Nat} (h : ax_Mw G a) : ax_Lat G (a + 28) := by
  have k2 : ((List.range 9).all fun j => decide (tX3[28 + j]? = (ax_shf 28 tX2)[j]?)) = true := by decide +kernel
  have hl : tX2.length = 9 := by decide +kernel
  exact ax_Lat_of (by have := h.1; omega) (h.2.part fun j hj => of_decide_eq_true (List.all_eq_true.mp k2 j (List.mem_range.mpr (by omega))))
theorem ax_Mw.pairs {G : ax_G} {a : Nat} (h : ax_Mw G a) : ax_Lat G (a + 37) := by
  have k2 : ((List.range 9).all fun j => decide (tX3[37 + j]? = (ax_shf 37 tX2)[j]?)) = true := by decide +kernel
  have hl : tX2.length = 9 := by decide +kernel
  exact ax_Lat_of (by have := h.1; omega) (h.2.part fun j hj => of_decide_eq_true (List.all_eq_true.mp k2 j (List.mem_range.mpr (by omega))))
theorem ax_Mw.inside {G : ax_G} {a : Nat} (h : ax_Mw G a) : ax_Lat G (a + 46) := by
  have k2 : ((List.range 9).all fun j => decide (tX3[46 + j]? = (ax_shf 46 tX2)[j]?)) = true := by decide +kernel
  have hl : tX2.length = 9 := by decide +kernel
  exact ax_Lat_of (by have := h.1; omega) (h.2.part fun j hj => of_decide_eq_true (List.all_eq_true.mp k2 j (List.mem_range.mpr (by omega))))
theorem ax_Mw.fld {G : ax_G} {a : Nat} (h : ax_Mw G a) : ax_K G a = 8 + 3 ∧ ax_N G a = 0 ∧ ∀ q ∈ [(7, 56), (6, 55), (5, 46), (4, 37), (3, 28), (2, 19), (1, 10), (0, 1)], ax_R G a q.1 = some (a + q.2) := h.2 0 (11, 0, [(7, 56), (6, 55), (5, 46), (4, 37), (3, 28), (2, 19), (1, 10), (0, 1)]) (by decide +kernel)
theorem ax_Mw.pair {G : ax_G} {a : Nat} (h : ax_Mw G a) : ax_La G (a + 55) 6 := ⟨by have := h.1; omega, (h.2 55 (2, 6, []) (by decide +kernel)).1, (h.2 55 (2, 6, []) (by decide +kernel)).2.1⟩
theorem ax_Mw.image {G : ax_G} {a : Nat} (h : ax_Mw G a) : ax_La G (a + 56) 6 := ⟨by have := h.1; omega, (h.2 56 (2, 6, []) (by decide +kernel)).1, (h.2 56 (2, 6, []) (by decide +kernel)).2.1⟩
def ax_ldI (I : ax_I) (a : Nat) (n : Nat) (v : Nat) : ax_I := ax_u (ax_u I (a + 1) 2 (nI n)) (a + 10) 2 (nI v)
def ax_ldL (I : ax_I) (L : ax_L) (a : Nat) (s : Nat) (f : Nat) (g : Nat) (h : Nat) (n : Nat) (c : Nat) (v : Nat) (e : Nat) : ax_L := (ax_rrs (ax_u (ax_u I (a + 1) 2 (nI n)) (a + 10) 2 (nI v)) s f (a + 10) (a + 55) (a + 56) v g c 0 (ax_nth (ax_u I (a + 1) 2 (nI n)) s (a + 10) h v e (ax_nth I s (a + 1) g n c L))).2
def ax_ldv (I : ax_I) (L : ax_L) (a : Nat) (s : Nat) (f : Nat) (g : Nat) (h : Nat) (n : Nat) (c : Nat) (v : Nat) (e : Nat) : Bool := (ax_rrs (ax_u (ax_u I (a + 1) 2 (nI n)) (a + 10) 2 (nI v)) s f (a + 10) (a + 55) (a + 56) v g c 0 (ax_nth (ax_u I (a + 1) 2 (nI n)) s (a + 10) h v e (ax_nth I s (a + 1) g n c L))).1
set_option maxRecDepth 20000 in
/-- load(state, f) -/
theorem k_X3_load (l : Launch) (D : va_G) (T : Nat → ClassId) (o d : Nat) (G : ax_G) (I : ax_I) (L : ax_L) (a s f g h n c v e : Nat) (hM : ax_Mw G a) (hs : ax_Sta G s) (has : a + 57 ≤ s ∨ s + 14 ≤ a) (hf : f < 8) (hg : I (s + 4) f = nI g) (hg6 : g < 6) (hh : I (s + 5) f = nI h) (hh6 : h < 6) (hn : I (s + 1) g = nI n) (hn3 : n ≤ 3) (hc : I (s + 2) g = nI c) (hc4 : c ≤ 4) (hv : I (s + 1) h = nI v) (hv3 : v ≤ 3) (he : I (s + 2) h = nI e) (he4 : e ≤ 4) (hd : 4 ≤ d) : ax_Con l D T o yX3_load cX3_load 3 (some .boolean) d 0 0 [.ref a, .ref s, .int (nI f)] G I L (fun zz G' I' L' => zz = some (.int (ax_b (ax_ldv I L a s f g h n c v e))) ∧ G = G' ∧ (ax_ldI I a n v) = I' ∧ (ax_ldL I L a s f g h n c v e) = L') := by
  refine ax_enter (by decide +kernel) (Nat.le_of_ble_eq_true rfl) ?_
  intro p_ e_ s_ m_ args_ below_ meth_ c_ C _
  refine x_lvs (lv' := [(0, .ref a), (1, .ref s), (2, .int (nI f))]) rfl ?_
  refine x_aload_n C (dk ddX3_load 0 rfl) rfl ?_
  refine x_aload_n C (dk ddX3_load 1 rfl) rfl ?_
  refine x_getr C flX3_40 rfl (by have h_ := hs.1; omega) (show ax_K G s = 8 + 7 from (hs.2 0 _ rfl).1) (show ax_R G s 3 = some (s + 4) from (hs.2 0 _ rfl).2.2 (3, 4) (by decide)) (dk ddX3_load 2 rfl) ?_
  refine x_iload_n C (dk ddX3_load 3 rfl) rfl ?_
  refine x_iald_n C (by have h_ := hs.1; omega) (show ax_K G (s + 4) = 0 from (hs.2 4 _ rfl).1) (show ax_N G (s + 4) = 8 from (hs.2 4 _ rfl).2.1) (by omega) (by decide) (dk ddX3_load 4 rfl) ?_
  rw [show (I (s + 4) f) = nI g from (by repeat (first | exact ax_u_at _ _ _ _ | exact hg | rw [ax_u_ne (by omega)]))]
  refine x_aload_n C (dk ddX3_load 5 rfl) rfl ?_
  refine x_getr C flX3_12 rfl (by have h_ := hM.1; omega) hM.fld.1 (show ax_R G a 0 = some (a + 1) from hM.fld.2.2 (0, 1) (by decide)) (dk ddX3_load 6 rfl) ?_
  refine x_callV C (ci := 7) (As := [.int (nI g), .ref (a + 1)]) (k_X7_fill l D T o (d - 1) G I L s g (a + 1) n c hs hM.source (by omega) (by omega) (by repeat (first | exact ax_u_at _ _ _ _ | exact hn | rw [ax_u_ne (by omega)])) (by omega) (by repeat (first | exact ax_u_at _ _ _ _ | exact hc | rw [ax_u_ne (by omega)])) (by omega) (by omega)) mlX3_46 rfl rfl (by have h_ := hs.1; omega) (show ax_K G s = 8 + 7 from (hs.2 0 _ rfl).1) ⟨by show d - 1 + 1 ≤ d; omega, by show 40 * (d - 1 + 1) ≤ 40 * d; omega⟩ ⟨Nat.le_refl _, Nat.le_refl _⟩ rfl (Nat.le_of_ble_eq_true rfl) (dk ddX3_load 7 rfl) ?_
  rintro v_ G_ I_ L_ ⟨rfl, rfl, rfl, rfl⟩
  refine x_aload_n C (dk ddX3_load 8 rfl) rfl ?_
  refine x_aload_n C (dk ddX3_load 9 rfl) rfl ?_
  refine x_getr C flX3_50 rfl (by have h_ := hs.1; omega) (show ax_K G s = 8 + 7 from (hs.2 0 _ rfl).1) (show ax_R G s 4 = some (s + 5) from (hs.2 0 _ rfl).2.2 (4, 5) (by decide)) (dk ddX3_load 10 rfl) ?_
  refine x_iload_n C (dk ddX3_load 11 rfl) rfl ?_
  refine x_iald_n C (by have h_ := hs.1; omega) (show ax_K G (s + 5) = 0 from (hs.2 5 _ rfl).1) (show ax_N G (s + 5) = 8 from (hs.2 5 _ rfl).2.1) (by omega) (by decide) (dk ddX3_load 12 rfl) ?_
  rw [show ((ax_u I (a + 1) 2 (nI n)) (s + 5) f) = nI h from (by repeat (first | exact ax_u_at _ _ _ _ | exact hh | rw [ax_u_ne (by omega)]))]
  refine x_aload_n C (dk ddX3_load 13 rfl) rfl ?_
  refine x_getr C flX3_18 rfl (by have h_ := hM.1; omega) hM.fld.1 (show ax_R G a 1 = some (a + 10) from hM.fld.2.2 (1, 10) (by decide)) (dk ddX3_load 14 rfl) ?_
  refine x_callV C (ci := 7) (As := [.int (nI h), .ref (a + 10)]) (k_X7_fill l D T o (d - 1) G (ax_u I (a + 1) 2 (nI n)) (ax_nth I s (a + 1) g n c L) s h (a + 10) v e hs hM.target (by omega) (by omega) (by repeat (first | exact ax_u_at _ _ _ _ | exact hv | rw [ax_u_ne (by omega)])) (by omega) (by repeat (first | exact ax_u_at _ _ _ _ | exact he | rw [ax_u_ne (by omega)])) (by omega) (by omega)) mlX3_46 rfl rfl (by have h_ := hs.1; omega) (show ax_K G s = 8 + 7 from (hs.2 0 _ rfl).1) ⟨by show d - 1 + 1 ≤ d; omega, by show 40 * (d - 1 + 1) ≤ 40 * d; omega⟩ ⟨Nat.le_refl _, Nat.le_refl _⟩ rfl (Nat.le_of_ble_eq_true rfl) (dk ddX3_load 15 rfl) ?_
  rintro v_ G_ I_ L_ ⟨rfl, rfl, rfl, rfl⟩
  refine x_aload_n C (dk ddX3_load 16 rfl) rfl ?_
  refine x_iload_n C (dk ddX3_load 17 rfl) rfl ?_
  refine x_aload_n C (dk ddX3_load 18 rfl) rfl ?_
  refine x_getr C flX3_18 rfl (by have h_ := hM.1; omega) hM.fld.1 (show ax_R G a 1 = some (a + 10) from hM.fld.2.2 (1, 10) (by decide)) (dk ddX3_load 19 rfl) ?_
  refine x_aload_n C (dk ddX3_load 20 rfl) rfl ?_
  refine x_getr C flX3_33 rfl (by have h_ := hM.1; omega) hM.fld.1 (show ax_R G a 6 = some (a + 55) from hM.fld.2.2 (6, 55) (by decide)) (dk ddX3_load 21 rfl) ?_
  refine x_aload_n C (dk ddX3_load 22 rfl) rfl ?_
  refine x_getr C flX3_37 rfl (by have h_ := hM.1; omega) hM.fld.1 (show ax_R G a 7 = some (a + 56) from hM.fld.2.2 (7, 56) (by decide)) (dk ddX3_load 23 rfl) ?_
  refine x_callV C (ci := 7) (As := [.int (nI f), .ref (a + 10), .ref (a + 55), .ref (a + 56)]) (k_X7_respectsRelations l D T o (d - 1) G (ax_u (ax_u I (a + 1) 2 (nI n)) (a + 10) 2 (nI v)) (ax_nth (ax_u I (a + 1) 2 (nI n)) s (a + 10) h v e (ax_nth I s (a + 1) g n c L)) s f (a + 10) (a + 55) (a + 56) v g c hs (by omega) hM.target (by repeat (first | exact ax_u_at _ _ _ _ | rw [ax_u_ne (by omega)])) (by omega) ⟨hM.pair.1, hM.pair.2.1, hM.pair.2.2⟩ ⟨hM.image.1, hM.image.2.1, hM.image.2.2⟩ (by repeat (first | exact ax_u_at _ _ _ _ | exact hg | rw [ax_u_ne (by omega)])) (by omega) (by repeat (first | exact ax_u_at _ _ _ _ | exact hc | rw [ax_u_ne (by omega)])) (by omega) (by omega)) mlX3_53 rfl rfl (by have h_ := hs.1; omega) (show ax_K G s = 8 + 7 from (hs.2 0 _ rfl).1) ⟨by show d - 1 + 1 ≤ d; omega, by show 40 * (d - 1 + 1) ≤ 40 * d; omega⟩ ⟨Nat.le_refl _, Nat.le_refl _⟩ rfl (Nat.le_of_ble_eq_true rfl) (dk ddX3_load 24 rfl) ?_
  rintro v_ G_ I_ L_ ⟨rfl, rfl, rfl, rfl⟩
  exact x_zret C rfl (ax_b_nar _) ⟨rfl, rfl, rfl, rfl⟩ rfl rfl (dk ddX3_load 25 rfl)
/-- so many rows of the target come to the pairs -/
def ax_wo1 (a : Nat) (n : Nat) (v : Nat) : Nat → ax_L → ax_L
  | 0, J => J
  | n_ + 1, J => ax_inr (a + 37) (v + n) (a + 55) (ax_cp (ax_wo1 a n v n_ J) (a + 10 + 2 + n_) (a + 55) 0 0 v)
/-- so many numbers of line i -/
def ax_wo2 (I : ax_I) (a : Nat) (s : Nat) (f : Nat) (i : Nat) : Nat → ax_L → ax_L
  | 0, J => J
  | n + 1, J => ax_u (ax_wo2 I a s f i n J) (a + 55) n ((I (s + 6) (9 * f + 3 * i + n)).toInt64)
/-- so many lines come to the pairs -/
def ax_wo3 (I : ax_I) (a : Nat) (s : Nat) (f : Nat) (n : Nat) (v : Nat) : Nat → ax_L → ax_L
  | 0, J => J
  | n_ + 1, J => ax_inr (a + 37) (v + n) (a + 55) (ax_u (ax_wo2 I a s f n_ v (ax_fl1 (a + 55) 0 6 (ax_wo3 I a s f n v n_ J))) (a + 55) (v + n_) 1)
def ax_woI (I : ax_I) (a : Nat) (n : Nat) (v : Nat) : ax_I := ax_u (ax_u (ax_u I (a + 37) 2 (nI (v + n))) (a + 19) 2 (nI v)) (a + 28) 2 (nI ((v + n) - v))
def ax_woL (I : ax_I) (L : ax_L) (a : Nat) (s : Nat) (f : Nat) (n : Nat) (v : Nat) : ax_L := ax_blp (a + 28) (a + 37) (v + n) v ((v + n) - v) (ax_clr (a + 28) 6 (ax_bfp (a + 19) (a + 37) v v (ax_clr (a + 19) 6 (ax_wo3 (ax_u I (a + 37) 2 (nI (v + n))) a s f n v n (ax_wo1 a n v v (ax_fl1 (a + 55) 0 6 (ax_clr (a + 37) 6 L)))))))
set_option maxRecDepth 20000 in
/-- workOut(state, f) -/
theorem k_X3_workOut (l : Launch) (D : va_G) (T : Nat → ClassId) (o d : Nat) (G : ax_G) (I : ax_I) (L : ax_L) (a s f n v : Nat) (hM : ax_Mw G a) (hs : ax_Sta G s) (has : a + 57 ≤ s ∨ s + 14 ≤ a) (hf : f < 8) (hn : I (a + 1) 2 = nI n) (hn3 : n ≤ 3) (hv : I (a + 10) 2 = nI v) (hv3 : v ≤ 3) (hd : 4 ≤ d) : ax_Con l D T o yX3_workOut cX3_workOut 7 none d 0 0 [.ref a, .ref s, .int (nI f)] G I L (fun zz G' I' L' => zz = none ∧ G = G' ∧ (ax_woI I a n v) = I' ∧ (ax_woL I L a s f n v) = L') := by
  refine ax_enter (by decide +kernel) (Nat.le_of_ble_eq_true rfl) ?_
  intro p_ e_ s_ m_ args_ below_ meth_ c_ C _
  refine x_lvs (lv' := [(0, .ref a), (1, .ref s), (2, .int (nI f))]) rfl ?_
  refine x_aload_n C (dk ddX3_workOut 0 rfl) rfl ?_
  refine x_getr C flX3_12 rfl (by have h_ := hM.1; omega) hM.fld.1 (show ax_R G a 0 = some (a + 1) from hM.fld.2.2 (0, 1) (by decide)) (dk ddX3_workOut 1 rfl) ?_
  refine x_geti C flX3_57 rfl (by have h_ := hM.source.1; omega) hM.source.2.1 (dk ddX3_workOut 2 rfl) ?_
  rw [show (I (a + 1) 2) = nI n from (by repeat (first | exact ax_u_at _ _ _ _ | exact hn | rw [ax_u_ne (by omega)]))]
  refine x_istore_n C (lv' := [(3, .int (nI n)), (0, .ref a), (1, .ref s), (2, .int (nI f))]) (dk ddX3_workOut 3 rfl) (by decide) rfl ?_
  refine x_aload_n C (dk ddX3_workOut 4 rfl) rfl ?_
  refine x_getr C flX3_18 rfl (by have h_ := hM.1; omega) hM.fld.1 (show ax_R G a 1 = some (a + 10) from hM.fld.2.2 (1, 10) (by decide)) (dk ddX3_workOut 5 rfl) ?_
  refine x_geti C flX3_57 rfl (by have h_ := hM.target.1; omega) hM.target.2.1 (dk ddX3_workOut 6 rfl) ?_
  rw [show (I (a + 10) 2) = nI v from (by repeat (first | exact ax_u_at _ _ _ _ | exact hv | rw [ax_u_ne (by omega)]))]
  refine x_istore C (lv' := [(4, .int (nI v)), (3, .int (nI n)), (0, .ref a), (1, .ref s), (2, .int (nI f))]) (dk ddX3_workOut 7 rfl) (by decide) rfl ?_
  refine x_aload_n C (dk ddX3_workOut 8 rfl) rfl ?_
  refine x_getr C flX3_27 rfl (by have h_ := hM.1; omega) hM.fld.1 (show ax_R G a 4 = some (a + 37) from hM.fld.2.2 (4, 37) (by decide)) (dk ddX3_workOut 9 rfl) ?_
  refine x_iload C (dk ddX3_workOut 10 rfl) rfl ?_
  refine x_iload_n C (dk ddX3_workOut 11 rfl) rfl ?_
  refine x_iadd_n C (dk ddX3_workOut 12 rfl) ?_
  refine x_callV C (ci := 2) (As := [.int (nI (v + n))]) (k_X2_clear l D T o (d - 1) G I L (a + 37) (v + n) hM.pairs (by omega) (by omega)) mlX3_61 rfl rfl (by have h_ := hM.pairs.1; omega) hM.pairs.2.1 ⟨by show d - 1 + 1 ≤ d; omega, by show 40 * (d - 1 + 1) ≤ 40 * d; omega⟩ ⟨Nat.le_refl _, Nat.le_refl _⟩ rfl (Nat.le_of_ble_eq_true rfl) (dk ddX3_workOut 13 rfl) ?_
  rintro v_ G_ I_ L_ ⟨rfl, rfl, rfl, rfl⟩
  refine x_aload_n C (dk ddX3_workOut 14 rfl) rfl ?_
  refine x_getr C flX3_33 rfl (by have h_ := hM.1; omega) hM.fld.1 (show ax_R G a 6 = some (a + 55) from hM.fld.2.2 (6, 55) (by decide)) (dk ddX3_workOut 15 rfl) ?_
  refine x_lconst C (v := 0) (dk ddX3_workOut 16 rfl) (by decide) ?_
  refine x_callS C (As := [.ref (a + 55), .long 0]) (k_J7_fill_d0a16 l D T o (d - 1) G (ax_u I (a + 37) 2 (nI (v + n))) (ax_clr (a + 37) 6 L) (a + 55) 6 0 hM.pair.1 hM.pair.2.1 hM.pair.2.2 (by decide) (by omega)) mlX3_65 ⟨by show d - 1 + 1 ≤ d; omega, by show 40 * (d - 1 + 1) ≤ 40 * d; omega⟩ ⟨Nat.le_refl _, Nat.le_refl _⟩ rfl (Nat.le_of_ble_eq_true rfl) (dk ddX3_workOut 17 rfl) ?_
  rintro v_ G_ I_ L_ ⟨rfl, rfl, rfl, rfl⟩
  refine x_iconst C (v := nI 0) (dk ddX3_workOut 18 rfl) (by decide) ?_
  refine x_istore C (lv' := [(5, .int (nI 0)), (4, .int (nI v)), (3, .int (nI n)), (0, .ref a), (1, .ref s), (2, .int (nI f))]) (dk ddX3_workOut 19 rfl) (by decide) rfl ?_
  have hl28 : ∀ (n_28 k : Nat), k + n_28 = v → ax_XM p_ l e_ s_ m_ args_ below_ meth_ c_ 7 D T o d 0 0 G (fun zz G' I' L' => zz = none ∧ G = G' ∧ (ax_woI I a n v) = I' ∧ (ax_woL I L a s f n v) = L') G (ax_u I (a + 37) 2 (nI (v + n))) (ax_wo1 a n v k (ax_fl1 (a + 55) 0 6 (ax_clr (a + 37) 6 L))) 39 [(5, .int (nI k)), (4, .int (nI v)), (3, .int (nI n)), (0, .ref a), (1, .ref s), (2, .int (nI f))] [] := by
    intro n_28
    induction n_28 with
    | zero =>
      intro k hk_28
      rw [show k = v by omega]
      refine x_iload C (dk ddX3_workOut 20 rfl) rfl ?_
      refine x_iload C (dk ddX3_workOut 21 rfl) rfl ?_
      refine x_icmp_ge_n C (tgt := 84) (dk ddX3_workOut 22 rfl) (by decide) (by omega) (by omega) (fun h43 => ?_) (fun h43 => ?_)
      · refine x_iconst C (v := nI 0) (dk ddX3_workOut 41 rfl) (by decide) ?_
        refine x_istore C (lv' := [(5, .int (nI 0)), (4, .int (nI v)), (3, .int (nI n)), (0, .ref a), (1, .ref s), (2, .int (nI f))]) (dk ddX3_workOut 42 rfl) (by decide) rfl ?_
        have hl30 : ∀ (n_30 i : Nat), i + n_30 = n → ax_XM p_ l e_ s_ m_ args_ below_ meth_ c_ 7 D T o d 0 0 G (fun zz G' I' L' => zz = none ∧ G = G' ∧ (ax_woI I a n v) = I' ∧ (ax_woL I L a s f n v) = L') G (ax_u I (a + 37) 2 (nI (v + n))) (ax_wo3 (ax_u I (a + 37) 2 (nI (v + n))) a s f n v i (ax_wo1 a n v v (ax_fl1 (a + 55) 0 6 (ax_clr (a + 37) 6 L)))) 87 [(5, .int (nI i)), (4, .int (nI v)), (3, .int (nI n)), (0, .ref a), (1, .ref s), (2, .int (nI f))] [] := by
          intro n_30
          induction n_30 with
          | zero =>
            intro i hk_30
            rw [show i = n by omega]
            refine x_iload C (dk ddX3_workOut 43 rfl) rfl ?_
            refine x_iload_n C (dk ddX3_workOut 44 rfl) rfl ?_
            refine x_icmp_ge_n C (tgt := 170) (dk ddX3_workOut 45 rfl) (by decide) (by omega) (by omega) (fun h90 => ?_) (fun h90 => ?_)
            · refine x_aload_n C (dk ddX3_workOut 88 rfl) rfl ?_
              refine x_getr C flX3_21 rfl (by have h_ := hM.1; omega) hM.fld.1 (show ax_R G a 2 = some (a + 19) from hM.fld.2.2 (2, 19) (by decide)) (dk ddX3_workOut 89 rfl) ?_
              refine x_aload_n C (dk ddX3_workOut 90 rfl) rfl ?_
              refine x_getr C flX3_27 rfl (by have h_ := hM.1; omega) hM.fld.1 (show ax_R G a 4 = some (a + 37) from hM.fld.2.2 (4, 37) (by decide)) (dk ddX3_workOut 91 rfl) ?_
              refine x_iload C (dk ddX3_workOut 92 rfl) rfl ?_
              refine x_callV C (ci := 2) (As := [.ref (a + 37), .int (nI v)]) (k_X2_becomeFirstPlaces l D T o (d - 1) G (ax_u I (a + 37) 2 (nI (v + n))) (ax_wo3 (ax_u I (a + 37) 2 (nI (v + n))) a s f n v n (ax_wo1 a n v v (ax_fl1 (a + 55) 0 6 (ax_clr (a + 37) 6 L)))) (a + 19) (a + 37) v hM.reach hM.pairs (by omega) (by omega)) mlX3_88 rfl rfl (by have h_ := hM.reach.1; omega) hM.reach.2.1 ⟨by show d - 1 + 1 ≤ d; omega, by show 40 * (d - 1 + 1) ≤ 40 * d; omega⟩ ⟨Nat.le_refl _, Nat.le_refl _⟩ rfl (Nat.le_of_ble_eq_true rfl) (dk ddX3_workOut 93 rfl) ?_
              rintro v_ G_ I_ L_ ⟨rfl, rfl, rfl, rfl⟩
              refine x_aload_n C (dk ddX3_workOut 94 rfl) rfl ?_
              refine x_getr C flX3_24 rfl (by have h_ := hM.1; omega) hM.fld.1 (show ax_R G a 3 = some (a + 28) from hM.fld.2.2 (3, 28) (by decide)) (dk ddX3_workOut 95 rfl) ?_
              refine x_aload_n C (dk ddX3_workOut 96 rfl) rfl ?_
              refine x_getr C flX3_27 rfl (by have h_ := hM.1; omega) hM.fld.1 (show ax_R G a 4 = some (a + 37) from hM.fld.2.2 (4, 37) (by decide)) (dk ddX3_workOut 97 rfl) ?_
              refine x_iload C (dk ddX3_workOut 98 rfl) rfl ?_
              refine x_callV C (ci := 2) (As := [.ref (a + 37), .int (nI v)]) (k_X2_becomeLastPlaces l D T o (d - 1) G (ax_u (ax_u I (a + 37) 2 (nI (v + n))) (a + 19) 2 (nI v)) (ax_bfp (a + 19) (a + 37) v v (ax_clr (a + 19) 6 (ax_wo3 (ax_u I (a + 37) 2 (nI (v + n))) a s f n v n (ax_wo1 a n v v (ax_fl1 (a + 55) 0 6 (ax_clr (a + 37) 6 L)))))) (a + 28) (a + 37) (v + n) v hM.kernel hM.pairs (by first | exact ax_u_at _ _ _ _ | (rw [ax_u_ne (by omega)]; exact ax_u_at _ _ _ _)) (by omega) (by omega) (by omega)) mlX3_92 rfl rfl (by have h_ := hM.kernel.1; omega) hM.kernel.2.1 ⟨by show d - 1 + 1 ≤ d; omega, by show 40 * (d - 1 + 1) ≤ 40 * d; omega⟩ ⟨Nat.le_refl _, Nat.le_refl _⟩ rfl (Nat.le_of_ble_eq_true rfl) (dk ddX3_workOut 99 rfl) ?_
              rintro v_ G_ I_ L_ ⟨rfl, rfl, rfl, rfl⟩
              exact x_vret C rfl ⟨rfl, rfl, rfl, rfl⟩ rfl rfl (dk ddX3_workOut_p1 0 rfl)
            · exfalso
              omega
          | succ n_30 ih_30 =>
            intro i hk_30
            refine x_iload C (dk ddX3_workOut 43 rfl) rfl ?_
            refine x_iload_n C (dk ddX3_workOut 44 rfl) rfl ?_
            refine x_icmp_ge_n C (tgt := 170) (dk ddX3_workOut 45 rfl) (by decide) (by omega) (by omega) (fun h90 => ?_) (fun h90 => ?_)
            · exfalso
              omega
            · refine x_aload_n C (dk ddX3_workOut 46 rfl) rfl ?_
              refine x_getr C flX3_33 rfl (by have h_ := hM.1; omega) hM.fld.1 (show ax_R G a 6 = some (a + 55) from hM.fld.2.2 (6, 55) (by decide)) (dk ddX3_workOut 47 rfl) ?_
              refine x_lconst C (v := 0) (dk ddX3_workOut 48 rfl) (by decide) ?_
              refine x_callS C (As := [.ref (a + 55), .long 0]) (k_J7_fill_d0a16 l D T o (d - 1) G (ax_u I (a + 37) 2 (nI (v + n))) (ax_wo3 (ax_u I (a + 37) 2 (nI (v + n))) a s f n v i (ax_wo1 a n v v (ax_fl1 (a + 55) 0 6 (ax_clr (a + 37) 6 L)))) (a + 55) 6 0 hM.pair.1 hM.pair.2.1 hM.pair.2.2 (by decide) (by omega)) mlX3_65 ⟨by show d - 1 + 1 ≤ d; omega, by show 40 * (d - 1 + 1) ≤ 40 * d; omega⟩ ⟨Nat.le_refl _, Nat.le_refl _⟩ rfl (Nat.le_of_ble_eq_true rfl) (dk ddX3_workOut 49 rfl) ?_
              rintro v_ G_ I_ L_ ⟨rfl, rfl, rfl, rfl⟩
              refine x_iconst C (v := nI 0) (dk ddX3_workOut 50 rfl) (by decide) ?_
              refine x_istore C (lv' := [(6, .int (nI 0)), (5, .int (nI i)), (4, .int (nI v)), (3, .int (nI n)), (0, .ref a), (1, .ref s), (2, .int (nI f))]) (dk ddX3_workOut 51 rfl) (by decide) rfl ?_
              have hl29 : ∀ (n_29 j : Nat), j + n_29 = v → ax_XM p_ l e_ s_ m_ args_ below_ meth_ c_ 7 D T o d 0 0 G (fun zz G' I' L' => zz = none ∧ G = G' ∧ (ax_woI I a n v) = I' ∧ (ax_woL I L a s f n v) = L') G (ax_u I (a + 37) 2 (nI (v + n))) (ax_wo2 (ax_u I (a + 37) 2 (nI (v + n))) a s f i j (ax_fl1 (a + 55) 0 6 (ax_wo3 (ax_u I (a + 37) 2 (nI (v + n))) a s f n v i (ax_wo1 a n v v (ax_fl1 (a + 55) 0 6 (ax_clr (a + 37) 6 L)))))) 104 [(6, .int (nI j)), (5, .int (nI i)), (4, .int (nI v)), (3, .int (nI n)), (0, .ref a), (1, .ref s), (2, .int (nI f))] [] := by
                intro n_29
                induction n_29 with
                | zero =>
                  intro j hk_29
                  rw [show j = v by omega]
                  refine x_iload C (dk ddX3_workOut 52 rfl) rfl ?_
                  refine x_iload C (dk ddX3_workOut 53 rfl) rfl ?_
                  refine x_icmp_ge_n C (tgt := 142) (dk ddX3_workOut 54 rfl) (by decide) (by omega) (by omega) (fun h108 => ?_) (fun h108 => ?_)
                  · refine x_aload_n C (dk ddX3_workOut 74 rfl) rfl ?_
                    refine x_getr C flX3_33 rfl (by have h_ := hM.1; omega) hM.fld.1 (show ax_R G a 6 = some (a + 55) from hM.fld.2.2 (6, 55) (by decide)) (dk ddX3_workOut 75 rfl) ?_
                    refine x_iload C (dk ddX3_workOut 76 rfl) rfl ?_
                    refine x_iload C (dk ddX3_workOut 77 rfl) rfl ?_
                    refine x_iadd_n C (dk ddX3_workOut 78 rfl) ?_
                    refine x_lconst C (v := 1) (dk ddX3_workOut 79 rfl) (by decide) ?_
                    refine x_last_n C hM.pair.1 hM.pair.2.1 hM.pair.2.2 (by omega) (by decide) (dk ddX3_workOut 80 rfl) ?_
                    refine x_aload_n C (dk ddX3_workOut 81 rfl) rfl ?_
                    refine x_getr C flX3_27 rfl (by have h_ := hM.1; omega) hM.fld.1 (show ax_R G a 4 = some (a + 37) from hM.fld.2.2 (4, 37) (by decide)) (dk ddX3_workOut 82 rfl) ?_
                    refine x_aload_n C (dk ddX3_workOut 83 rfl) rfl ?_
                    refine x_getr C flX3_33 rfl (by have h_ := hM.1; omega) hM.fld.1 (show ax_R G a 6 = some (a + 55) from hM.fld.2.2 (6, 55) (by decide)) (dk ddX3_workOut 84 rfl) ?_
                    refine x_callV C (ci := 2) (As := [.ref (a + 55)]) (k_X2_insr l D T o (d - 1) G (ax_u I (a + 37) 2 (nI (v + n))) (ax_u (ax_wo2 (ax_u I (a + 37) 2 (nI (v + n))) a s f i v (ax_fl1 (a + 55) 0 6 (ax_wo3 (ax_u I (a + 37) 2 (nI (v + n))) a s f n v i (ax_wo1 a n v v (ax_fl1 (a + 55) 0 6 (ax_clr (a + 37) 6 L)))))) (a + 55) (v + i) 1) (a + 37) (v + n) (a + 55) 6 hM.pairs (by first | exact ax_u_at _ _ _ _ | (rw [ax_u_ne (by omega)]; exact ax_u_at _ _ _ _)) (by omega) ⟨hM.pair.1, hM.pair.2.1, hM.pair.2.2⟩ (by decide) (by omega)) mlX3_81 rfl rfl (by have h_ := hM.pairs.1; omega) hM.pairs.2.1 ⟨by show d - 1 + 1 ≤ d; omega, by show 40 * (d - 1 + 1) ≤ 40 * d; omega⟩ ⟨Nat.le_refl _, Nat.le_refl _⟩ rfl (Nat.le_of_ble_eq_true rfl) (dk ddX3_workOut 85 rfl) ?_
                    rintro v_ G_ I_ L_ ⟨rfl, rfl, rfl, rfl⟩
                    refine x_iinc C (v := nI (i + 1)) (lv' := [(5, .int (nI (i + 1))), (6, .int (nI v)), (4, .int (nI v)), (3, .int (nI n)), (0, .ref a), (1, .ref s), (2, .int (nI f))]) (dk ddX3_workOut 86 rfl) rfl (nI_add i 1) (by decide) rfl ?_
                    refine x_goto C (tgt := 87) (dk ddX3_workOut 87 rfl) (by decide) ?_
                    have e_ : ax_wo3 (ax_u I (a + 37) 2 (nI (v + n))) a s f n v (i + 1) (ax_wo1 a n v v (ax_fl1 (a + 55) 0 6 (ax_clr (a + 37) 6 L))) = ax_inr (a + 37) (v + n) (a + 55) (ax_u (ax_wo2 (ax_u I (a + 37) 2 (nI (v + n))) a s f i v (ax_fl1 (a + 55) 0 6 (ax_wo3 (ax_u I (a + 37) 2 (nI (v + n))) a s f n v i (ax_wo1 a n v v (ax_fl1 (a + 55) 0 6 (ax_clr (a + 37) 6 L)))))) (a + 55) (v + i) 1) := rfl
                    refine x_sub [0, 2, 3, 4, 5, 6] (lv' := [(5, .int (nI (i + 1))), (4, .int (nI v)), (3, .int (nI n)), (0, .ref a), (1, .ref s), (2, .int (nI f))]) rfl ?_
                    have h_ := ih_30 (i + 1) (by omega)
                    rw [e_] at h_
                    exact h_
                  · exfalso
                    omega
                | succ n_29 ih_29 =>
                  intro j hk_29
                  refine x_iload C (dk ddX3_workOut 52 rfl) rfl ?_
                  refine x_iload C (dk ddX3_workOut 53 rfl) rfl ?_
                  refine x_icmp_ge_n C (tgt := 142) (dk ddX3_workOut 54 rfl) (by decide) (by omega) (by omega) (fun h108 => ?_) (fun h108 => ?_)
                  · exfalso
                    omega
                  · refine x_aload_n C (dk ddX3_workOut 55 rfl) rfl ?_
                    refine x_getr C flX3_33 rfl (by have h_ := hM.1; omega) hM.fld.1 (show ax_R G a 6 = some (a + 55) from hM.fld.2.2 (6, 55) (by decide)) (dk ddX3_workOut 56 rfl) ?_
                    refine x_iload C (dk ddX3_workOut 57 rfl) rfl ?_
                    refine x_aload_n C (dk ddX3_workOut 58 rfl) rfl ?_
                    refine x_getr C flX3_85 rfl (by have h_ := hs.1; omega) (show ax_K G s = 8 + 7 from (hs.2 0 _ rfl).1) (show ax_R G s 5 = some (s + 6) from (hs.2 0 _ rfl).2.2 (5, 6) (by decide)) (dk ddX3_workOut 59 rfl) ?_
                    refine x_bipush C (v := nI 9) (dk ddX3_workOut 60 rfl) (by decide) ?_
                    refine x_iload_n C (dk ddX3_workOut 61 rfl) rfl ?_
                    refine x_imul_n C (dk ddX3_workOut 62 rfl) ?_
                    refine x_iconst C (v := nI 3) (dk ddX3_workOut 63 rfl) (by decide) ?_
                    refine x_iload C (dk ddX3_workOut 64 rfl) rfl ?_
                    refine x_imul_n C (dk ddX3_workOut 65 rfl) ?_
                    refine x_iadd_n C (dk ddX3_workOut 66 rfl) ?_
                    refine x_iload C (dk ddX3_workOut 67 rfl) rfl ?_
                    refine x_iadd_n C (dk ddX3_workOut 68 rfl) ?_
                    refine x_iald_n C (by have h_ := hs.1; omega) (show ax_K G (s + 6) = 0 from (hs.2 6 _ rfl).1) (show ax_N G (s + 6) = 72 from (hs.2 6 _ rfl).2.1) (by omega) (by decide) (dk ddX3_workOut 69 rfl) ?_
                    refine x_i2l C (dk ddX3_workOut 70 rfl) ?_
                    refine x_last_n C hM.pair.1 hM.pair.2.1 hM.pair.2.2 (by omega) (by decide) (dk ddX3_workOut 71 rfl) ?_
                    refine x_iinc C (v := nI (j + 1)) (lv' := [(6, .int (nI (j + 1))), (5, .int (nI i)), (4, .int (nI v)), (3, .int (nI n)), (0, .ref a), (1, .ref s), (2, .int (nI f))]) (dk ddX3_workOut 72 rfl) rfl (nI_add j 1) (by decide) rfl ?_
                    refine x_goto C (tgt := 104) (dk ddX3_workOut 73 rfl) (by decide) ?_
                    have e_ : ax_wo2 (ax_u I (a + 37) 2 (nI (v + n))) a s f i (j + 1) (ax_fl1 (a + 55) 0 6 (ax_wo3 (ax_u I (a + 37) 2 (nI (v + n))) a s f n v i (ax_wo1 a n v v (ax_fl1 (a + 55) 0 6 (ax_clr (a + 37) 6 L))))) = ax_u (ax_wo2 (ax_u I (a + 37) 2 (nI (v + n))) a s f i j (ax_fl1 (a + 55) 0 6 (ax_wo3 (ax_u I (a + 37) 2 (nI (v + n))) a s f n v i (ax_wo1 a n v v (ax_fl1 (a + 55) 0 6 (ax_clr (a + 37) 6 L)))))) (a + 55) j (((ax_u I (a + 37) 2 (nI (v + n))) (s + 6) (9 * f + 3 * i + j)).toInt64) := rfl
                    refine x_sub [0, 1, 2, 3, 4, 5, 6] (lv' := [(6, .int (nI (j + 1))), (5, .int (nI i)), (4, .int (nI v)), (3, .int (nI n)), (0, .ref a), (1, .ref s), (2, .int (nI f))]) rfl ?_
                    have h_ := ih_29 (j + 1) (by omega)
                    rw [e_] at h_
                    exact h_
              refine x_sub [0, 1, 2, 3, 4, 5, 6] (lv' := [(6, .int (nI 0)), (5, .int (nI i)), (4, .int (nI v)), (3, .int (nI n)), (0, .ref a), (1, .ref s), (2, .int (nI f))]) rfl ?_
              exact hl29 v 0 (by omega)
        refine x_sub [0, 1, 2, 3, 4, 5] (lv' := [(5, .int (nI 0)), (4, .int (nI v)), (3, .int (nI n)), (0, .ref a), (1, .ref s), (2, .int (nI f))]) rfl ?_
        exact hl30 n 0 (by omega)
      · exfalso
        omega
    | succ n_28 ih_28 =>
      intro k hk_28
      refine x_iload C (dk ddX3_workOut 20 rfl) rfl ?_
      refine x_iload C (dk ddX3_workOut 21 rfl) rfl ?_
      refine x_icmp_ge_n C (tgt := 84) (dk ddX3_workOut 22 rfl) (by decide) (by omega) (by omega) (fun h43 => ?_) (fun h43 => ?_)
      · exfalso
        omega
      · refine x_aload_n C (dk ddX3_workOut 23 rfl) rfl ?_
        refine x_getr C flX3_18 rfl (by have h_ := hM.1; omega) hM.fld.1 (show ax_R G a 1 = some (a + 10) from hM.fld.2.2 (1, 10) (by decide)) (dk ddX3_workOut 24 rfl) ?_
        refine x_getrN C fnX3_71 rfl (by have h_ := hM.target.1; omega) hM.target.2.1 hM.target.2.2.1 (dk ddX3_workOut 25 rfl) ?_
        refine x_iload C (dk ddX3_workOut 26 rfl) rfl ?_
        refine x_aald7_n C (by have h_ := hM.target.1; omega) hM.target.2.2.2.2.1 hM.target.2.2.2.2.2.1 (by omega) (by decide) (hM.target.2.2.2.2.2.2.1 k (by omega)).1 (dk ddX3_workOut 27 rfl) ?_
        refine x_iconst C (v := nI 0) (dk ddX3_workOut 28 rfl) (by decide) ?_
        refine x_aload_n C (dk ddX3_workOut 29 rfl) rfl ?_
        refine x_getr C flX3_33 rfl (by have h_ := hM.1; omega) hM.fld.1 (show ax_R G a 6 = some (a + 55) from hM.fld.2.2 (6, 55) (by decide)) (dk ddX3_workOut 30 rfl) ?_
        refine x_iconst C (v := nI 0) (dk ddX3_workOut 31 rfl) (by decide) ?_
        refine x_iload C (dk ddX3_workOut 32 rfl) rfl ?_
        refine x_copyl C (n := v) (ax_inT 3 203 (by decide +kernel)) (ax_inT 2 164 (by decide +kernel)) (ax_inT 2 163 (by decide +kernel)) (ax_inT 1 15 (by decide +kernel)) (by have h_ := hM.target.1; omega) (hM.target.2.2.2.2.2.2.1 k (by omega)).2.1 hM.pair.1 hM.pair.2.1 (by rw [(hM.target.2.2.2.2.2.2.1 k (by omega)).2.2]; omega) (by rw [hM.pair.2.2]; omega) (by omega) (by omega) (by omega) ⟨by show 1 ≤ d; omega, by show 40 ≤ 40 * d; omega⟩ (Nat.le_of_ble_eq_true rfl) (dk ddX3_workOut 33 rfl) ?_
        refine x_aload_n C (dk ddX3_workOut 34 rfl) rfl ?_
        refine x_getr C flX3_27 rfl (by have h_ := hM.1; omega) hM.fld.1 (show ax_R G a 4 = some (a + 37) from hM.fld.2.2 (4, 37) (by decide)) (dk ddX3_workOut 35 rfl) ?_
        refine x_aload_n C (dk ddX3_workOut 36 rfl) rfl ?_
        refine x_getr C flX3_33 rfl (by have h_ := hM.1; omega) hM.fld.1 (show ax_R G a 6 = some (a + 55) from hM.fld.2.2 (6, 55) (by decide)) (dk ddX3_workOut 37 rfl) ?_
        refine x_callV C (ci := 2) (As := [.ref (a + 55)]) (k_X2_insr l D T o (d - 1) G (ax_u I (a + 37) 2 (nI (v + n))) (ax_cp (ax_wo1 a n v k (ax_fl1 (a + 55) 0 6 (ax_clr (a + 37) 6 L))) (a + 10 + 2 + k) (a + 55) 0 0 v) (a + 37) (v + n) (a + 55) 6 hM.pairs (by first | exact ax_u_at _ _ _ _ | (rw [ax_u_ne (by omega)]; exact ax_u_at _ _ _ _)) (by omega) ⟨hM.pair.1, hM.pair.2.1, hM.pair.2.2⟩ (by decide) (by omega)) mlX3_81 rfl rfl (by have h_ := hM.pairs.1; omega) hM.pairs.2.1 ⟨by show d - 1 + 1 ≤ d; omega, by show 40 * (d - 1 + 1) ≤ 40 * d; omega⟩ ⟨Nat.le_refl _, Nat.le_refl _⟩ rfl (Nat.le_of_ble_eq_true rfl) (dk ddX3_workOut 38 rfl) ?_
        rintro v_ G_ I_ L_ ⟨rfl, rfl, rfl, rfl⟩
        refine x_iinc C (v := nI (k + 1)) (lv' := [(5, .int (nI (k + 1))), (4, .int (nI v)), (3, .int (nI n)), (0, .ref a), (1, .ref s), (2, .int (nI f))]) (dk ddX3_workOut 39 rfl) rfl (nI_add k 1) (by decide) rfl ?_
        refine x_goto C (tgt := 39) (dk ddX3_workOut 40 rfl) (by decide) ?_
        have e_ : ax_wo1 a n v (k + 1) (ax_fl1 (a + 55) 0 6 (ax_clr (a + 37) 6 L)) = ax_inr (a + 37) (v + n) (a + 55) (ax_cp (ax_wo1 a n v k (ax_fl1 (a + 55) 0 6 (ax_clr (a + 37) 6 L))) (a + 10 + 2 + k) (a + 55) 0 0 v) := rfl
        refine x_sub [0, 1, 2, 3, 4, 5] (lv' := [(5, .int (nI (k + 1))), (4, .int (nI v)), (3, .int (nI n)), (0, .ref a), (1, .ref s), (2, .int (nI f))]) rfl ?_
        have h_ := ih_28 (k + 1) (by omega)
        rw [e_] at h_
        exact h_
  refine x_sub [0, 1, 2, 3, 4, 5] (lv' := [(5, .int (nI 0)), (4, .int (nI v)), (3, .int (nI n)), (0, .ref a), (1, .ref s), (2, .int (nI f))]) rfl ?_
  exact hl28 v 0 (by omega)
/-- so many numbers of the pair, negative -/
def ax_gbk1 (a : Nat) (q : Nat) (v : Nat) : Nat → ax_L → ax_L
  | 0, J => J
  | n + 1, J => ax_u (ax_gbk1 a q v n J) q n (-((ax_gbk1 a q v n J) (a + 55) (v + n)))
def ax_gbL (L : ax_L) (a : Nat) (q : Nat) (n : Nat) (v : Nat) : ax_L := if (ax_sz ((ax_rfo (a + 37) (a + 55) (v + n) 0 ((v + n) - 0) (ax_cp (ax_fl1 (a + 55) 0 6 L) q (a + 55) 0 0 v)) (a + 55)) v) = true then ax_rfo (a + 28) q n 0 (n - 0) (ax_gbk1 a q v n (ax_fl1 q 0 6 (ax_rfo (a + 37) (a + 55) (v + n) 0 ((v + n) - 0) (ax_cp (ax_fl1 (a + 55) 0 6 L) q (a + 55) 0 0 v)))) else ax_rfo (a + 37) (a + 55) (v + n) 0 ((v + n) - 0) (ax_cp (ax_fl1 (a + 55) 0 6 L) q (a + 55) 0 0 v)
def ax_gbv (L : ax_L) (a : Nat) (q : Nat) (n : Nat) (v : Nat) : Bool := if (ax_sz ((ax_rfo (a + 37) (a + 55) (v + n) 0 ((v + n) - 0) (ax_cp (ax_fl1 (a + 55) 0 6 L) q (a + 55) 0 0 v)) (a + 55)) v) = true then true else false
set_option maxRecDepth 20000 in
/-- goBack(row) -/
theorem k_X3_goBack (l : Launch) (D : va_G) (T : Nat → ClassId) (o d : Nat) (G : ax_G) (I : ax_I) (L : ax_L) (a q n v : Nat) (hM : ax_Mw G a) (hq : ax_La G q 6) (haq : q < a ∨ a + 57 ≤ q) (hn : I (a + 1) 2 = nI n) (hn3 : n ≤ 3) (hv : I (a + 10) 2 = nI v) (hv3 : v ≤ 3) (hp : I (a + 37) 2 = nI (v + n)) (hk : I (a + 28) 2 = nI n) (hd : 3 ≤ d) : ax_Con l D T o yX3_goBack cX3_goBack 5 (some .boolean) d 0 0 [.ref a, .ref q] G I L (fun zz G' I' L' => zz = some (.int (ax_b (ax_gbv L a q n v))) ∧ G = G' ∧ I = I' ∧ (ax_gbL L a q n v) = L') := by
  refine ax_enter (by decide +kernel) (Nat.le_of_ble_eq_true rfl) ?_
  intro p_ e_ s_ m_ args_ below_ meth_ c_ C _
  refine x_lvs (lv' := [(0, .ref a), (1, .ref q)]) rfl ?_
  refine x_aload_n C (dk ddX3_goBack 0 rfl) rfl ?_
  refine x_getr C flX3_12 rfl (by have h_ := hM.1; omega) hM.fld.1 (show ax_R G a 0 = some (a + 1) from hM.fld.2.2 (0, 1) (by decide)) (dk ddX3_goBack 1 rfl) ?_
  refine x_geti C flX3_57 rfl (by have h_ := hM.source.1; omega) hM.source.2.1 (dk ddX3_goBack 2 rfl) ?_
  rw [show (I (a + 1) 2) = nI n from hn]
  refine x_istore_n C (lv' := [(2, .int (nI n)), (0, .ref a), (1, .ref q)]) (dk ddX3_goBack 3 rfl) (by decide) rfl ?_
  refine x_aload_n C (dk ddX3_goBack 4 rfl) rfl ?_
  refine x_getr C flX3_18 rfl (by have h_ := hM.1; omega) hM.fld.1 (show ax_R G a 1 = some (a + 10) from hM.fld.2.2 (1, 10) (by decide)) (dk ddX3_goBack 5 rfl) ?_
  refine x_geti C flX3_57 rfl (by have h_ := hM.target.1; omega) hM.target.2.1 (dk ddX3_goBack 6 rfl) ?_
  rw [show (I (a + 10) 2) = nI v from hv]
  refine x_istore_n C (lv' := [(3, .int (nI v)), (2, .int (nI n)), (0, .ref a), (1, .ref q)]) (dk ddX3_goBack 7 rfl) (by decide) rfl ?_
  refine x_aload_n C (dk ddX3_goBack 8 rfl) rfl ?_
  refine x_getr C flX3_33 rfl (by have h_ := hM.1; omega) hM.fld.1 (show ax_R G a 6 = some (a + 55) from hM.fld.2.2 (6, 55) (by decide)) (dk ddX3_goBack 9 rfl) ?_
  refine x_lconst C (v := 0) (dk ddX3_goBack 10 rfl) (by decide) ?_
  refine x_callS C (As := [.ref (a + 55), .long 0]) (k_J7_fill_d0a16 l D T o (d - 1) G I L (a + 55) 6 0 hM.pair.1 hM.pair.2.1 hM.pair.2.2 (by decide) (by omega)) mlX3_65 ⟨by show d - 1 + 1 ≤ d; omega, by show 40 * (d - 1 + 1) ≤ 40 * d; omega⟩ ⟨Nat.le_refl _, Nat.le_refl _⟩ rfl (Nat.le_of_ble_eq_true rfl) (dk ddX3_goBack 11 rfl) ?_
  rintro v_ G_ I_ L_ ⟨rfl, rfl, rfl, rfl⟩
  refine x_aload_n C (dk ddX3_goBack 12 rfl) rfl ?_
  refine x_iconst C (v := nI 0) (dk ddX3_goBack 13 rfl) (by decide) ?_
  refine x_aload_n C (dk ddX3_goBack 14 rfl) rfl ?_
  refine x_getr C flX3_33 rfl (by have h_ := hM.1; omega) hM.fld.1 (show ax_R G a 6 = some (a + 55) from hM.fld.2.2 (6, 55) (by decide)) (dk ddX3_goBack 15 rfl) ?_
  refine x_iconst C (v := nI 0) (dk ddX3_goBack 16 rfl) (by decide) ?_
  refine x_iload_n C (dk ddX3_goBack 17 rfl) rfl ?_
  refine x_copyl C (n := v) (ax_inT 3 203 (by decide +kernel)) (ax_inT 2 164 (by decide +kernel)) (ax_inT 2 163 (by decide +kernel)) (ax_inT 1 15 (by decide +kernel)) hq.1 hq.2.1 hM.pair.1 hM.pair.2.1 (by rw [hq.2.2]; omega) (by rw [hM.pair.2.2]; omega) (by omega) (by omega) (by omega) ⟨by show 1 ≤ d; omega, by show 40 ≤ 40 * d; omega⟩ (Nat.le_of_ble_eq_true rfl) (dk ddX3_goBack 18 rfl) ?_
  refine x_aload_n C (dk ddX3_goBack 19 rfl) rfl ?_
  refine x_getr C flX3_27 rfl (by have h_ := hM.1; omega) hM.fld.1 (show ax_R G a 4 = some (a + 37) from hM.fld.2.2 (4, 37) (by decide)) (dk ddX3_goBack 20 rfl) ?_
  refine x_aload_n C (dk ddX3_goBack 21 rfl) rfl ?_
  refine x_getr C flX3_33 rfl (by have h_ := hM.1; omega) hM.fld.1 (show ax_R G a 6 = some (a + 55) from hM.fld.2.2 (6, 55) (by decide)) (dk ddX3_goBack 22 rfl) ?_
  refine x_callV C (ci := 2) (As := [.ref (a + 55)]) (k_X2_reduce_n l D T o (d - 1) G I (ax_cp (ax_fl1 (a + 55) 0 6 L) q (a + 55) 0 0 v) (a + 37) (a + 55) (v + n) 6 hM.pairs hp (by omega) ⟨hM.pair.1, hM.pair.2.1, hM.pair.2.2⟩ (by omega) (by decide) (by omega)) mlX3_113 rfl rfl (by have h_ := hM.pairs.1; omega) hM.pairs.2.1 ⟨by show d - 1 + 1 ≤ d; omega, by show 40 * (d - 1 + 1) ≤ 40 * d; omega⟩ ⟨Nat.le_refl _, Nat.le_refl _⟩ rfl (Nat.le_of_ble_eq_true rfl) (dk ddX3_goBack 23 rfl) ?_
  rintro v_ G_ I_ L_ ⟨rfl, rfl, rfl, rfl⟩
  refine x_aload_n C (dk ddX3_goBack 24 rfl) rfl ?_
  refine x_getr C flX3_33 rfl (by have h_ := hM.1; omega) hM.fld.1 (show ax_R G a 6 = some (a + 55) from hM.fld.2.2 (6, 55) (by decide)) (dk ddX3_goBack 25 rfl) ?_
  refine x_iload_n C (dk ddX3_goBack 26 rfl) rfl ?_
  refine x_callN C (As := [.ref (a + 55), .int (nI v)]) (k_X2_startsWithZeros l D T o (d - 1) G I (ax_rfo (a + 37) (a + 55) (v + n) 0 ((v + n) - 0) (ax_cp (ax_fl1 (a + 55) 0 6 L) q (a + 55) 0 0 v)) (a + 55) v 6 ⟨hM.pair.1, hM.pair.2.1, hM.pair.2.2⟩ (by omega) (by decide)) mnX3_116 ⟨by show d - 1 + 1 ≤ d; omega, by show 40 * (d - 1 + 1) ≤ 40 * d; omega⟩ ⟨Nat.le_refl _, Nat.le_refl _⟩ rfl (Nat.le_of_ble_eq_true rfl) (dk ddX3_goBack 27 rfl) ?_
  rintro v_ G_ I_ L_ ⟨rfl, rfl, rfl, rfl⟩
  refine x_if_ne_b C (tgt := 59) (dk ddX3_goBack 28 rfl) (by decide) (fun h54 => ?_) (fun h54 => ?_)
  · refine x_aload_n C (dk ddX3_goBack 31 rfl) rfl ?_
    refine x_lconst C (v := 0) (dk ddX3_goBack 32 rfl) (by decide) ?_
    refine x_callS C (As := [.ref q, .long 0]) (k_J7_fill_d0a16 l D T o (d - 1) G I (ax_rfo (a + 37) (a + 55) (v + n) 0 ((v + n) - 0) (ax_cp (ax_fl1 (a + 55) 0 6 L) q (a + 55) 0 0 v)) q 6 0 hq.1 hq.2.1 hq.2.2 (by decide) (by omega)) mlX3_65 ⟨by show d - 1 + 1 ≤ d; omega, by show 40 * (d - 1 + 1) ≤ 40 * d; omega⟩ ⟨Nat.le_refl _, Nat.le_refl _⟩ rfl (Nat.le_of_ble_eq_true rfl) (dk ddX3_goBack 33 rfl) ?_
    rintro v_ G_ I_ L_ ⟨rfl, rfl, rfl, rfl⟩
    refine x_iconst C (v := nI 0) (dk ddX3_goBack 34 rfl) (by decide) ?_
    refine x_istore C (lv' := [(4, .int (nI 0)), (3, .int (nI v)), (2, .int (nI n)), (0, .ref a), (1, .ref q)]) (dk ddX3_goBack 35 rfl) (by decide) rfl ?_
    have hl31 : ∀ (n_31 i : Nat), i + n_31 = n → ax_XM p_ l e_ s_ m_ args_ below_ meth_ c_ 5 D T o d 0 0 G (fun zz G' I' L' => zz = some (.int (ax_b (ax_gbv L a q n v))) ∧ G = G' ∧ I = I' ∧ (ax_gbL L a q n v) = L') G I (ax_gbk1 a q v i (ax_fl1 q 0 6 (ax_rfo (a + 37) (a + 55) (v + n) 0 ((v + n) - 0) (ax_cp (ax_fl1 (a + 55) 0 6 L) q (a + 55) 0 0 v)))) 67 [(4, .int (nI i)), (3, .int (nI v)), (2, .int (nI n)), (0, .ref a), (1, .ref q)] [] := by
      intro n_31
      induction n_31 with
      | zero =>
        intro i hk_31
        rw [show i = n by omega]
        refine x_iload C (dk ddX3_goBack 36 rfl) rfl ?_
        refine x_iload_n C (dk ddX3_goBack 37 rfl) rfl ?_
        refine x_icmp_ge_n C (tgt := 93) (dk ddX3_goBack 38 rfl) (by decide) (by omega) (by omega) (fun h70 => ?_) (fun h70 => ?_)
        · refine x_aload_n C (dk ddX3_goBack 51 rfl) rfl ?_
          refine x_getr C flX3_24 rfl (by have h_ := hM.1; omega) hM.fld.1 (show ax_R G a 3 = some (a + 28) from hM.fld.2.2 (3, 28) (by decide)) (dk ddX3_goBack 52 rfl) ?_
          refine x_aload_n C (dk ddX3_goBack 53 rfl) rfl ?_
          refine x_callV C (ci := 2) (As := [.ref q]) (k_X2_reduce_n l D T o (d - 1) G I (ax_gbk1 a q v n (ax_fl1 q 0 6 (ax_rfo (a + 37) (a + 55) (v + n) 0 ((v + n) - 0) (ax_cp (ax_fl1 (a + 55) 0 6 L) q (a + 55) 0 0 v)))) (a + 28) q n 6 hM.kernel hk (by omega) ⟨hq.1, hq.2.1, hq.2.2⟩ (by omega) (by decide) (by omega)) mlX3_113 rfl rfl (by have h_ := hM.kernel.1; omega) hM.kernel.2.1 ⟨by show d - 1 + 1 ≤ d; omega, by show 40 * (d - 1 + 1) ≤ 40 * d; omega⟩ ⟨Nat.le_refl _, Nat.le_refl _⟩ rfl (Nat.le_of_ble_eq_true rfl) (dk ddX3_goBack 54 rfl) ?_
          rintro v_ G_ I_ L_ ⟨rfl, rfl, rfl, rfl⟩
          refine x_iconst C (v := nI 1) (dk ddX3_goBack 55 rfl) (by decide) ?_
          exact x_zret C rfl rfl ⟨(by unfold ax_gbv; rw [if_pos h54] <;> rfl), rfl, rfl, (by unfold ax_gbL; rw [if_pos h54] <;> rfl)⟩ rfl rfl (dk ddX3_goBack 56 rfl)
        · exfalso
          omega
      | succ n_31 ih_31 =>
        intro i hk_31
        refine x_iload C (dk ddX3_goBack 36 rfl) rfl ?_
        refine x_iload_n C (dk ddX3_goBack 37 rfl) rfl ?_
        refine x_icmp_ge_n C (tgt := 93) (dk ddX3_goBack 38 rfl) (by decide) (by omega) (by omega) (fun h70 => ?_) (fun h70 => ?_)
        · exfalso
          omega
        · refine x_aload_n C (dk ddX3_goBack 39 rfl) rfl ?_
          refine x_iload C (dk ddX3_goBack 40 rfl) rfl ?_
          refine x_aload_n C (dk ddX3_goBack 41 rfl) rfl ?_
          refine x_getr C flX3_33 rfl (by have h_ := hM.1; omega) hM.fld.1 (show ax_R G a 6 = some (a + 55) from hM.fld.2.2 (6, 55) (by decide)) (dk ddX3_goBack 42 rfl) ?_
          refine x_iload_n C (dk ddX3_goBack 43 rfl) rfl ?_
          refine x_iload C (dk ddX3_goBack 44 rfl) rfl ?_
          refine x_iadd_n C (dk ddX3_goBack 45 rfl) ?_
          refine x_lald_n C hM.pair.1 hM.pair.2.1 hM.pair.2.2 (by omega) (by decide) (dk ddX3_goBack 46 rfl) ?_
          refine x_lneg C (dk ddX3_goBack 47 rfl) ?_
          refine x_last_n C hq.1 hq.2.1 hq.2.2 (by omega) (by decide) (dk ddX3_goBack 48 rfl) ?_
          refine x_iinc C (v := nI (i + 1)) (lv' := [(4, .int (nI (i + 1))), (3, .int (nI v)), (2, .int (nI n)), (0, .ref a), (1, .ref q)]) (dk ddX3_goBack 49 rfl) rfl (nI_add i 1) (by decide) rfl ?_
          refine x_goto C (tgt := 67) (dk ddX3_goBack 50 rfl) (by decide) ?_
          have e_ : ax_gbk1 a q v (i + 1) (ax_fl1 q 0 6 (ax_rfo (a + 37) (a + 55) (v + n) 0 ((v + n) - 0) (ax_cp (ax_fl1 (a + 55) 0 6 L) q (a + 55) 0 0 v))) = ax_u (ax_gbk1 a q v i (ax_fl1 q 0 6 (ax_rfo (a + 37) (a + 55) (v + n) 0 ((v + n) - 0) (ax_cp (ax_fl1 (a + 55) 0 6 L) q (a + 55) 0 0 v)))) q i (-((ax_gbk1 a q v i (ax_fl1 q 0 6 (ax_rfo (a + 37) (a + 55) (v + n) 0 ((v + n) - 0) (ax_cp (ax_fl1 (a + 55) 0 6 L) q (a + 55) 0 0 v)))) (a + 55) (v + i))) := rfl
          refine x_sub [0, 1, 2, 3, 4] (lv' := [(4, .int (nI (i + 1))), (3, .int (nI v)), (2, .int (nI n)), (0, .ref a), (1, .ref q)]) rfl ?_
          have h_ := ih_31 (i + 1) (by omega)
          rw [e_] at h_
          exact h_
    refine x_sub [0, 1, 2, 3, 4] (lv' := [(4, .int (nI 0)), (3, .int (nI v)), (2, .int (nI n)), (0, .ref a), (1, .ref q)]) rfl ?_
    exact hl31 n 0 (by omega)
  · refine x_iconst C (v := nI 0) (dk ddX3_goBack 29 rfl) (by decide) ?_
    exact x_zret C rfl rfl ⟨(by unfold ax_gbv; rw [if_neg (Bool.eq_false_iff.mp h54)] <;> rfl), rfl, rfl, (by unfold ax_gbL; rw [if_neg (Bool.eq_false_iff.mp h54)] <;> rfl)⟩ rfl rfl (dk ddX3_goBack 30 rfl)
def ax_oto (L : ax_L) (a : Nat) (n : Nat) (k : Nat) : Bool := decide (n = k ∧ ∀ i, i < k → ∀ j, j < k → i ≤ j → L (a + 28 + 2 + i) j = L (a + 1 + 2 + i) j)
set_option maxRecDepth 20000 in
/-- isOneToOne() -/
theorem k_X3_isOneToOne (l : Launch) (D : va_G) (T : Nat → ClassId) (o d : Nat) (G : ax_G) (I : ax_I) (L : ax_L) (a n k : Nat) (hM : ax_Mw G a) (hn : I (a + 1) 2 = nI n) (hn3 : n ≤ 3) (hk : I (a + 28) 2 = nI k) (hk3 : k ≤ 3) (hd : 1 ≤ d) : ax_Con l D T o yX3_isOneToOne cX3_isOneToOne 1 (some .boolean) d 0 0 [.ref a] G I L (fun zz G' I' L' => zz = some (.int (ax_b (ax_oto L a n k))) ∧ G = G' ∧ I = I' ∧ L = L') := by
  refine ax_enter (by decide +kernel) (Nat.le_of_ble_eq_true rfl) ?_
  intro p_ e_ s_ m_ args_ below_ meth_ c_ C _
  refine x_lvs (lv' := [(0, .ref a)]) rfl ?_
  refine x_aload_n C (dk ddX3_isOneToOne 0 rfl) rfl ?_
  refine x_getr C flX3_24 rfl (by have h_ := hM.1; omega) hM.fld.1 (show ax_R G a 3 = some (a + 28) from hM.fld.2.2 (3, 28) (by decide)) (dk ddX3_isOneToOne 1 rfl) ?_
  refine x_aload_n C (dk ddX3_isOneToOne 2 rfl) rfl ?_
  refine x_getr C flX3_12 rfl (by have h_ := hM.1; omega) hM.fld.1 (show ax_R G a 0 = some (a + 1) from hM.fld.2.2 (0, 1) (by decide)) (dk ddX3_isOneToOne 3 rfl) ?_
  refine x_callV C (ci := 2) (As := [.ref (a + 1)]) (k_X2_isAs l D T o (d - 1) G I L (a + 28) k (a + 1) n hM.kernel hk (by omega) hM.source hn (by omega)) mlX3_95 rfl rfl (by have h_ := hM.kernel.1; omega) hM.kernel.2.1 ⟨by show d - 1 + 1 ≤ d; omega, by show 40 * (d - 1 + 1) ≤ 40 * d; omega⟩ ⟨Nat.le_refl _, Nat.le_refl _⟩ rfl (Nat.le_of_ble_eq_true rfl) (dk ddX3_isOneToOne 4 rfl) ?_
  rintro v_ G_ I_ L_ ⟨rfl, rfl, rfl, rfl⟩
  exact x_zret C rfl (ax_b_nar _) ⟨rfl, rfl, rfl, rfl⟩ rfl rfl (dk ddX3_isOneToOne 5 rfl)
set_option maxRecDepth 20000 in
/-- isOnto() -/
theorem k_X3_isOnto (l : Launch) (D : va_G) (T : Nat → ClassId) (o d : Nat) (G : ax_G) (I : ax_I) (L : ax_L) (a v : Nat) (hM : ax_Mw G a) (hv : I (a + 19) 2 = nI v) (hv3 : v ≤ 3) (hd : 1 ≤ d) : ax_Con l D T o yX3_isOnto cX3_isOnto 1 (some .boolean) d 0 0 [.ref a] G I L (fun zz G' I' L' => zz = some (.int (ax_b (if (ax_ixp (a + 19) L v) = 1 then true else false))) ∧ G = G' ∧ I = I' ∧ L = L') := by
  refine ax_enter (by decide +kernel) (Nat.le_of_ble_eq_true rfl) ?_
  intro p_ e_ s_ m_ args_ below_ meth_ c_ C _
  refine x_lvs (lv' := [(0, .ref a)]) rfl ?_
  refine x_aload_n C (dk ddX3_isOnto 0 rfl) rfl ?_
  refine x_getr C flX3_21 rfl (by have h_ := hM.1; omega) hM.fld.1 (show ax_R G a 2 = some (a + 19) from hM.fld.2.2 (2, 19) (by decide)) (dk ddX3_isOnto 1 rfl) ?_
  refine x_callV C (ci := 2) (As := []) (k_X2_index l D T o (d - 1) G I L (a + 19) v hM.reach hv (by omega)) mlX3_99 rfl rfl (by have h_ := hM.reach.1; omega) hM.reach.2.1 ⟨by show d - 1 + 1 ≤ d; omega, by show 40 * (d - 1 + 1) ≤ 40 * d; omega⟩ ⟨Nat.le_refl _, Nat.le_refl _⟩ rfl (Nat.le_of_ble_eq_true rfl) (dk ddX3_isOnto 2 rfl) ?_
  rintro v_ G_ I_ L_ ⟨rfl, rfl, rfl, rfl⟩
  refine x_lconst C (v := 1) (dk ddX3_isOnto 3 rfl) (by decide) ?_
  refine x_lc_ne C (tgt := 16) (dk ddX3_isOnto 4 rfl) (dk ddX3_isOnto 5 rfl) (by decide) (fun h8 => ?_) (fun h8 => ?_)
  · refine x_iconst C (v := nI 0) (dk ddX3_isOnto 8 rfl) (by decide) ?_
    exact x_zret C rfl rfl ⟨(by rw [if_neg h8] <;> rfl), rfl, rfl, rfl⟩ rfl rfl (dk ddX3_isOnto 9 rfl)
  · refine x_iconst C (v := nI 1) (dk ddX3_isOnto 6 rfl) (by decide) ?_
    refine x_goto C (tgt := 17) (dk ddX3_isOnto 7 rfl) (by decide) ?_
    exact x_zret C rfl rfl ⟨(by rw [if_pos h8] <;> rfl), rfl, rfl, rfl⟩ rfl rfl (dk ddX3_isOnto 9 rfl)
def ax_frI0 (I : ax_I) (L : ax_L) (a : Nat) (r : Nat) (n : Nat) : ax_I := ax_u (ax_u I (a + 46) 2 (nI (ax_rkc (a + 28) L n))) r 1 (nI (ax_rkc (a + 28) L n))
def ax_frL0 (L : ax_L) (a : Nat) (x : Nat) (n : Nat) : ax_L := (ax_ofq (ax_bin L (a + 46) (a + 1) (a + 28) n n (ax_clr (a + 46) 6 L)) x (a + 46) (ax_rkc (a + 28) L n) (ax_rkc (a + 28) L n) ((ax_bin L (a + 46) (a + 1) (a + 28) n n (ax_clr (a + 46) 6 L)), 1)).1
set_option maxRecDepth 20000 in
/-- fillRings(0, rings) -/
theorem k_X3_fillRings_0 (l : Launch) (D : va_G) (T : Nat → ClassId) (o d : Nat) (G : ax_G) (I : ax_I) (L : ax_L) (a r x n v : Nat) (hM : ax_Mw G a) (hr : ax_Rg G r x) (har : r < a ∨ a + 57 ≤ r) (hn : I (a + 1) 2 = nI n) (hn3 : n ≤ 3) (hk : I (a + 28) 2 = nI n) (hv : I (a + 19) 2 = nI v) (hv3 : v ≤ 3) (hd : 5 ≤ d) : ax_Con l D T o yX3_fillRings cX3_fillRings 3 none d 0 0 [.ref a, .int (nI 0), .ref r] G I L (fun zz G' I' L' => zz = none ∧ G = G' ∧ (ax_frI0 I L a r n) = I' ∧ (ax_frL0 L a x n) = L') := by
  refine ax_enter (by decide +kernel) (Nat.le_of_ble_eq_true rfl) ?_
  intro p_ e_ s_ m_ args_ below_ meth_ c_ C _
  refine x_lvs (lv' := [(0, .ref a), (1, .int (nI 0)), (2, .ref r)]) rfl ?_
  have hr1_ := ax_rkc_le (a + 28) L n
  refine x_iload_n C (dk ddX3_fillRings 0 rfl) rfl ?_
  refine x_lookup C (off := 27) (tgt := 28) (dk ddX3_fillRings 1 rfl) (by decide) (by decide) (by decide) ?_
  refine x_aload_n C (dk ddX3_fillRings 2 rfl) rfl ?_
  refine x_getr C flX3_30 rfl (by have h_ := hM.1; omega) hM.fld.1 (show ax_R G a 5 = some (a + 46) from hM.fld.2.2 (5, 46) (by decide)) (dk ddX3_fillRings 3 rfl) ?_
  refine x_aload_n C (dk ddX3_fillRings 4 rfl) rfl ?_
  refine x_getr C flX3_12 rfl (by have h_ := hM.1; omega) hM.fld.1 (show ax_R G a 0 = some (a + 1) from hM.fld.2.2 (0, 1) (by decide)) (dk ddX3_fillRings 5 rfl) ?_
  refine x_aload_n C (dk ddX3_fillRings 6 rfl) rfl ?_
  refine x_getr C flX3_24 rfl (by have h_ := hM.1; omega) hM.fld.1 (show ax_R G a 3 = some (a + 28) from hM.fld.2.2 (3, 28) (by decide)) (dk ddX3_fillRings 7 rfl) ?_
  refine x_callV C (ci := 2) (As := [.ref (a + 1), .ref (a + 28)]) (k_X2_becomeInside l D T o (d - 1) G I L (a + 46) (a + 1) n (a + 28) n hM.inside hM.source hn (by omega) hM.kernel hk (by omega) (by omega) (by omega) (by omega)) mlX3_103 rfl rfl (by have h_ := hM.inside.1; omega) hM.inside.2.1 ⟨by show d - 1 + 1 ≤ d; omega, by show 40 * (d - 1 + 1) ≤ 40 * d; omega⟩ ⟨Nat.le_refl _, Nat.le_refl _⟩ rfl (Nat.le_of_ble_eq_true rfl) (dk ddX3_fillRings 8 rfl) ?_
  rintro v_ G_ I_ L_ ⟨rfl, rfl, rfl, rfl⟩
  refine x_aload_n C (dk ddX3_fillRings 9 rfl) rfl ?_
  refine x_aload_n C (dk ddX3_fillRings 10 rfl) rfl ?_
  refine x_getr C flX3_30 rfl (by have h_ := hM.1; omega) hM.fld.1 (show ax_R G a 5 = some (a + 46) from hM.fld.2.2 (5, 46) (by decide)) (dk ddX3_fillRings 11 rfl) ?_
  refine x_callV C (ci := 4) (As := [.ref (a + 46)]) (k_X4_ofQuotient l D T o (d - 1) G (ax_u I (a + 46) 2 (nI (ax_rkc (a + 28) L n))) (ax_bin L (a + 46) (a + 1) (a + 28) n n (ax_clr (a + 46) 6 L)) r x (a + 46) (ax_rkc (a + 28) L n) hr hM.inside (by repeat (first | exact ax_u_at _ _ _ _ | rw [ax_u_ne (by omega)])) (by omega) (by omega) (by omega)) mlX3_107 rfl rfl hr.1 hr.2.1 ⟨by show d - 1 + 1 ≤ d; omega, by show 40 * (d - 1 + 1) ≤ 40 * d; omega⟩ ⟨Nat.le_refl _, Nat.le_refl _⟩ rfl (Nat.le_of_ble_eq_true rfl) (dk ddX3_fillRings 12 rfl) ?_
  rintro v_ G_ I_ L_ ⟨rfl, rfl, rfl, rfl⟩
  refine x_goto C (tgt := 73) (dk ddX3_fillRings 13 rfl) (by decide) ?_
  exact x_vret C rfl ⟨rfl, rfl, rfl, rfl⟩ rfl rfl (dk ddX3_fillRings 23 rfl)
def ax_frI1 (I : ax_I) (r : Nat) (n : Nat) : ax_I := ax_u I r 1 (nI n)
def ax_frL1 (L : ax_L) (a : Nat) (x : Nat) (n : Nat) : ax_L := (ax_ofq L x (a + 28) n n (L, 1)).1
set_option maxRecDepth 20000 in
/-- fillRings(1, rings) -/
theorem k_X3_fillRings_1 (l : Launch) (D : va_G) (T : Nat → ClassId) (o d : Nat) (G : ax_G) (I : ax_I) (L : ax_L) (a r x n v : Nat) (hM : ax_Mw G a) (hr : ax_Rg G r x) (har : r < a ∨ a + 57 ≤ r) (hn : I (a + 1) 2 = nI n) (hn3 : n ≤ 3) (hk : I (a + 28) 2 = nI n) (hv : I (a + 19) 2 = nI v) (hv3 : v ≤ 3) (hd : 5 ≤ d) : ax_Con l D T o yX3_fillRings cX3_fillRings 3 none d 0 0 [.ref a, .int (nI 1), .ref r] G I L (fun zz G' I' L' => zz = none ∧ G = G' ∧ (ax_frI1 I r n) = I' ∧ (ax_frL1 L a x n) = L') := by
  refine ax_enter (by decide +kernel) (Nat.le_of_ble_eq_true rfl) ?_
  intro p_ e_ s_ m_ args_ below_ meth_ c_ C _
  refine x_lvs (lv' := [(0, .ref a), (1, .int (nI 1)), (2, .ref r)]) rfl ?_
  have hr1_ := ax_rkc_le (a + 28) L n
  refine x_iload_n C (dk ddX3_fillRings 0 rfl) rfl ?_
  refine x_lookup C (off := 53) (tgt := 54) (dk ddX3_fillRings 1 rfl) (by decide) (by decide) (by decide) ?_
  refine x_aload_n C (dk ddX3_fillRings 14 rfl) rfl ?_
  refine x_aload_n C (dk ddX3_fillRings 15 rfl) rfl ?_
  refine x_getr C flX3_24 rfl (by have h_ := hM.1; omega) hM.fld.1 (show ax_R G a 3 = some (a + 28) from hM.fld.2.2 (3, 28) (by decide)) (dk ddX3_fillRings 16 rfl) ?_
  refine x_callV C (ci := 4) (As := [.ref (a + 28)]) (k_X4_ofQuotient l D T o (d - 1) G I L r x (a + 28) n hr hM.kernel hk (by omega) (by omega) (by omega)) mlX3_107 rfl rfl hr.1 hr.2.1 ⟨by show d - 1 + 1 ≤ d; omega, by show 40 * (d - 1 + 1) ≤ 40 * d; omega⟩ ⟨Nat.le_refl _, Nat.le_refl _⟩ rfl (Nat.le_of_ble_eq_true rfl) (dk ddX3_fillRings 17 rfl) ?_
  rintro v_ G_ I_ L_ ⟨rfl, rfl, rfl, rfl⟩
  refine x_goto C (tgt := 73) (dk ddX3_fillRings 18 rfl) (by decide) ?_
  exact x_vret C rfl ⟨rfl, rfl, rfl, rfl⟩ rfl rfl (dk ddX3_fillRings 23 rfl)
def ax_frI2 (I : ax_I) (r : Nat) (v : Nat) : ax_I := ax_u I r 1 (nI v)
def ax_frL2 (L : ax_L) (a : Nat) (x : Nat) (v : Nat) : ax_L := (ax_ofq L x (a + 19) v v (L, 1)).1
set_option maxRecDepth 20000 in
/-- fillRings(2, rings) -/
theorem k_X3_fillRings_2 (l : Launch) (D : va_G) (T : Nat → ClassId) (o d : Nat) (G : ax_G) (I : ax_I) (L : ax_L) (a r x n v : Nat) (hM : ax_Mw G a) (hr : ax_Rg G r x) (har : r < a ∨ a + 57 ≤ r) (hn : I (a + 1) 2 = nI n) (hn3 : n ≤ 3) (hk : I (a + 28) 2 = nI n) (hv : I (a + 19) 2 = nI v) (hv3 : v ≤ 3) (hd : 5 ≤ d) : ax_Con l D T o yX3_fillRings cX3_fillRings 3 none d 0 0 [.ref a, .int (nI 2), .ref r] G I L (fun zz G' I' L' => zz = none ∧ G = G' ∧ (ax_frI2 I r v) = I' ∧ (ax_frL2 L a x v) = L') := by
  refine ax_enter (by decide +kernel) (Nat.le_of_ble_eq_true rfl) ?_
  intro p_ e_ s_ m_ args_ below_ meth_ c_ C _
  refine x_lvs (lv' := [(0, .ref a), (1, .int (nI 2)), (2, .ref r)]) rfl ?_
  have hr1_ := ax_rkc_le (a + 28) L n
  refine x_iload_n C (dk ddX3_fillRings 0 rfl) rfl ?_
  refine x_lookup C (off := 64) (tgt := 65) (dk ddX3_fillRings 1 rfl) (by decide) (by decide) (by decide) ?_
  refine x_aload_n C (dk ddX3_fillRings 19 rfl) rfl ?_
  refine x_aload_n C (dk ddX3_fillRings 20 rfl) rfl ?_
  refine x_getr C flX3_21 rfl (by have h_ := hM.1; omega) hM.fld.1 (show ax_R G a 2 = some (a + 19) from hM.fld.2.2 (2, 19) (by decide)) (dk ddX3_fillRings 21 rfl) ?_
  refine x_callV C (ci := 4) (As := [.ref (a + 19)]) (k_X4_ofQuotient l D T o (d - 1) G I L r x (a + 19) v hr hM.reach hv (by omega) (by omega) (by omega)) mlX3_107 rfl rfl hr.1 hr.2.1 ⟨by show d - 1 + 1 ≤ d; omega, by show 40 * (d - 1 + 1) ≤ 40 * d; omega⟩ ⟨Nat.le_refl _, Nat.le_refl _⟩ rfl (Nat.le_of_ble_eq_true rfl) (dk ddX3_fillRings 22 rfl) ?_
  rintro v_ G_ I_ L_ ⟨rfl, rfl, rfl, rfl⟩
  exact x_vret C rfl ⟨rfl, rfl, rfl, rfl⟩ rfl rfl (dk ddX3_fillRings 23 rfl)

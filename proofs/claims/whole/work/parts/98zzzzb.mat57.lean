/-! ===== numbers of the second way back ===== -/
theorem gz_core {w m : Nat} {Z : Nat → Nat → Int} {A T : Nat → Prop} (hm : m ≤ 3) (hw : m ≤ w) (cls : ∀ a, a < w → A a ∨ T a ∨ ∃ j, Z a = gd_E j) (bA : ∀ a, a < w → A a → (∀ j, (Z a j).natAbs ≤ 9) ∧ ∀ j, m ≤ j → Z a j = 0) (bT : ∀ a, a < w → T a → (∀ j, (Z a j).natAbs ≤ 99) ∧ ∀ j, m ≤ j → Z a j = 0) (hF : ∀ Y : Nat → Nat → Int, (∀ a, a < w → (A a ∧ Y a = Z a) ∨ ∃ j, Y a = gd_E j) → (gd w Y).natAbs ≤ 27) : (gd w Z).natAbs ≤ 5821794 := by
  by_cases t0 : ∃ b, b < w ∧ T b ∧ ¬ A b
  case neg =>
    exact Nat.le_trans (hF Z (fun a ha => by
      by_cases c : A a
      · exact Or.inl ⟨c, rfl⟩
      · rcases cls a ha with h | h | h
        · exact absurd h c
        · exact absurd ⟨a, ha, h, c⟩ t0
        · exact Or.inr h)) (by decide)
  obtain ⟨b0, hb0, tb0, ab0⟩ := t0
  by_cases t1 : ∃ b, b < w ∧ b ≠ b0 ∧ T b ∧ ¬ A b
  case neg =>
    have key := gx_e (Z := Z) (c := 99) (B := 27) hm hb0 (bT b0 hb0 tb0).1 (bT b0 hb0 tb0).2 (fun i => hF _ (fun a ha => by
      by_cases e : a = b0
      · subst e; rw [mt_set_i]; exact Or.inr ⟨i, rfl⟩
      · rw [mt_set_n e]
        by_cases c : A a
        · exact Or.inl ⟨c, rfl⟩
        · rcases cls a ha with h | h | h
          · exact absurd h c
          · exact absurd ⟨a, ha, e, h, c⟩ t1
          · exact Or.inr h))
    rw [mt_set_self] at key
    exact Nat.le_trans key (by decide)
  obtain ⟨b1, hb1, n10, tb1, ab1⟩ := t1
  by_cases t2 : ∃ b, b < w ∧ b ≠ b0 ∧ b ≠ b1 ∧ T b ∧ ¬ A b
  case pos =>
    obtain ⟨b2, hb2, n20, n21, tb2, ab2⟩ := t2
    by_cases o : ∃ a, a < w ∧ a ≠ b0 ∧ a ≠ b1 ∧ a ≠ b2 ∧ (A a ∨ T a)
    · obtain ⟨a, ha, x0, x1, x2, h⟩ := o
      have hz : ∀ j, m ≤ j → Z a j = 0 := by
        rcases h with h | h
        · exact (bA a ha h).2
        · exact (bT a ha h).2
      rw [gx_4 hm hb0 hb1 hb2 ha (Ne.symm n10) (Ne.symm n20) (Ne.symm x0) (Ne.symm n21) (Ne.symm x1) (Ne.symm x2) (bT b0 hb0 tb0).2 (bT b1 hb1 tb1).2 (bT b2 hb2 tb2).2 hz]
      exact Nat.zero_le _
    · have key := gy_three (Z := Z) (a := b0) (b := b1) (c := b2) hm hw hb0 hb1 hb2 (Ne.symm n10) (Ne.symm n20) (Ne.symm n21) (bT b0 hb0 tb0).1 (bT b1 hb1 tb1).1 (bT b2 hb2 tb2).1 (bT b0 hb0 tb0).2 (bT b1 hb1 tb1).2 (bT b2 hb2 tb2).2 (fun i k l => gy_un (fun a ha => by
        by_cases e1 : a = b1
        · subst e1; rw [mt_set_i]; exact ⟨k, rfl⟩
        · rw [mt_set_n e1]
          by_cases e0 : a = b0
          · subst e0; rw [mt_set_i]; exact ⟨i, rfl⟩
          · rw [mt_set_n e0]
            by_cases e2 : a = b2
            · subst e2; rw [mt_set_i]; exact ⟨l, rfl⟩
            · rw [mt_set_n e2]
              rcases cls a ha with h | h | h
              · exact absurd ⟨a, ha, e0, e1, e2, Or.inl h⟩ o
              · exact absurd ⟨a, ha, e0, e1, e2, Or.inr h⟩ o
              · exact h))
      rw [gy_set3] at key
      exact Nat.le_trans key (by decide)
  case neg =>
    by_cases o : ∃ a, a < w ∧ A a
    case neg =>
      have key := gx_e (Z := Z) (c := 99) (B := 297) hm hb0 (bT b0 hb0 tb0).1 (bT b0 hb0 tb0).2 (fun i => by
        have k2 := gx_e (Z := mt_set Z b0 (gd_E i)) (a := b1) (c := 99) (B := 1) hm hb1 (bT b1 hb1 tb1).1 (bT b1 hb1 tb1).2 (fun k => gy_un (fun a ha => by
          by_cases e1 : a = b1
          · subst e1; rw [mt_set_i]; exact ⟨k, rfl⟩
          · rw [mt_set_n e1]
            by_cases e0 : a = b0
            · subst e0; rw [mt_set_i]; exact ⟨i, rfl⟩
            · rw [mt_set_n e0]
              rcases cls a ha with h | h | h
              · exact absurd ⟨a, ha, h⟩ o
              · exact absurd ⟨a, ha, e0, e1, h, fun y => o ⟨a, ha, y⟩⟩ t2
              · exact h))
        have e : mt_set (mt_set Z b0 (gd_E i)) b1 (Z b1) = mt_set Z b0 (gd_E i) := by
          have : Z b1 = mt_set Z b0 (gd_E i) b1 := (mt_set_n n10).symm
          rw [this, mt_set_self]
        rw [e] at k2
        exact Nat.le_trans k2 (by decide))
      rw [mt_set_self] at key
      exact Nat.le_trans key (by decide)
    obtain ⟨a3, ha3, oa3⟩ := o
    have x0 : a3 ≠ b0 := fun e => ab0 (by rw [← e]; exact oa3)
    have x1 : a3 ≠ b1 := fun e => ab1 (by rw [← e]; exact oa3)
    by_cases o2 : ∃ a, a < w ∧ a ≠ a3 ∧ A a
    · obtain ⟨a4, ha4, n43, oa4⟩ := o2
      have y0 : a4 ≠ b0 := fun e => ab0 (by rw [← e]; exact oa4)
      have y1 : a4 ≠ b1 := fun e => ab1 (by rw [← e]; exact oa4)
      rw [gx_4 hm hb0 hb1 ha3 ha4 (Ne.symm n10) (Ne.symm x0) (Ne.symm y0) (Ne.symm x1) (Ne.symm y1) (Ne.symm n43) (bT b0 hb0 tb0).2 (bT b1 hb1 tb1).2 (bA a3 ha3 oa3).2 (bA a4 ha4 oa4).2]
      exact Nat.zero_le _
    · have key := gy_three (Z := Z) (a := b0) (b := b1) (c := a3) hm hw hb0 hb1 ha3 (Ne.symm n10) (Ne.symm x0) (Ne.symm x1) (bT b0 hb0 tb0).1 (bT b1 hb1 tb1).1 (bA a3 ha3 oa3).1 (bT b0 hb0 tb0).2 (bT b1 hb1 tb1).2 (bA a3 ha3 oa3).2 (fun i k l => gy_un (fun a ha => by
        by_cases e1 : a = b1
        · subst e1; rw [mt_set_i]; exact ⟨k, rfl⟩
        · rw [mt_set_n e1]
          by_cases e0 : a = b0
          · subst e0; rw [mt_set_i]; exact ⟨i, rfl⟩
          · rw [mt_set_n e0]
            by_cases e2 : a = a3
            · subst e2; rw [mt_set_i]; exact ⟨l, rfl⟩
            · rw [mt_set_n e2]
              by_cases c : A a
              · exact absurd ⟨a, ha, e2, c⟩ o2
              · rcases cls a ha with h | h | h
                · exact absurd h c
                · exact absurd ⟨a, ha, e0, e1, h, c⟩ t2
                · exact h))
      rw [gy_set3] at key
      exact Nat.le_trans key (by decide)
theorem gz_K {m n : Nat} {O t : Nat → Nat → Int} (hO : gx_O m 27 O) (hn : n ≤ 3) (ht : ∀ i j, (t i j).natAbs ≤ 99) : gd_F (m + n) (fun u => ∃ r, r < m + n ∧ u = gx_X m n O t r) 5821794 := by
  intro Z hZ
  refine gy_S hO.2.2.2.1 n 0 (by omega) Z (fun a ha => gx_P0 (t := t) (hZ a ha)) (fun Z' h1 _ => ?_)
  obtain ⟨c1, d1, e1⟩ := hO.2.2.2.2.1
  refine gz_core (A := fun a => ∃ k, k < m ∧ Z' a = O k) (T := fun a => ∃ i, i < n ∧ Z' a = gx_t m t i) hO.1 (Nat.le_add_right m n) (fun a ha => gx_Pn hn (h1 a ha)) (fun a _ ⟨k, k1, k2⟩ => ⟨fun j => ?_, fun j hj => ?_⟩) (fun a _ ⟨i, i1, i2⟩ => ⟨fun j => ?_, fun j hj => ?_⟩) (fun Y hY => hO.F (Nat.le_add_right m n) Y (fun a ha => (hY a ha).imp (fun ⟨⟨k, k1, k2⟩, h⟩ => ⟨k, k1, h.trans k2⟩) id))
  · rw [k2]; have := e1 k j k1; omega
  · rw [k2]; exact hO.2.2.2.1 k j k1 hj
  · rw [i2]; exact gx_t.b ht i j
  · rw [i2]; exact gx_t.z hj

/-- a great row reduced by own rows -/
theorem gy_s3 {m M c : Nat} {B : Nat → Nat → Int} {v : Nat → Int} (hm : m ≤ 3) (hB : mt_hn m B) (hv : ∀ j, j < m → (v j).natAbs ≤ M) (hc : ∀ k j, k < m → (B k j).natAbs ≤ c) {z : Nat} (hz : z < m) (h0 : B z z = 0) : (mt_rf B 0 m v z).natAbs ≤ M + (if z = 0 then 0 else if z = 1 then 1 else 3) * M * c := by
  have rf := mt_rfq (w := m) (f := 0) (ρ := M) (B := B) (v := v) hB.2.1 (fun k q _ h1 h2 h3 => hB.2.2.2.1 k q h1 h2 h3) (fun q _ h1 h2 => by
    have h3 := hv q h1
    have h4 : M * 1 ≤ M * (B q q).natAbs := Nat.mul_le_mul_left _ (by omega)
    omega)
  have up : ∀ k, k < m → B k k ≠ 0 → (mt_rf B 0 k v k / B k k).natAbs ≤ M + gd_c M k := fun k hk hne => mt_dva (by have := hB.2.1 k hk; omega) (by have := rf k (by omega) k (by omega) hk hne; exact this)
  have st : ∀ k, (mt_rf B 0 (k + 1) v z) = if B k k = 0 then mt_rf B 0 k v z else mt_rf B 0 k v z - (mt_rf B 0 k v k / B k k) * B k z := fun k => by
    show (if B (0 + k) (0 + k) = 0 then mt_rf B 0 k v z else mt_rf B 0 k v z - (mt_rf B 0 k v (0 + k) / B (0 + k) (0 + k)) * B (0 + k) z) = _
    rw [Nat.zero_add]
  have stb : ∀ k, k < m → (mt_rf B 0 (k + 1) v z).natAbs ≤ (mt_rf B 0 k v z).natAbs + (M + gd_c M k) * c := fun k hk => by
    rw [st k]
    by_cases e : B k k = 0
    · rw [if_pos e]; omega
    · rw [if_neg e]
      have h1 : ((mt_rf B 0 k v k / B k k) * B k z).natAbs ≤ (M + gd_c M k) * c := by
        rw [Int.natAbs_mul]; exact Nat.mul_le_mul (up k hk e) (hc k z hk)
      omega
  have same : ∀ k, z ≤ k → k < m → mt_rf B 0 (k + 1) v z = mt_rf B 0 k v z := fun k h1 h2 => by
    rw [st k]
    by_cases e : B k k = 0
    · rw [if_pos e]
    · rw [if_neg e]
      have : z ≠ k := fun h => e (by rw [← h]; exact h0)
      rw [hB.1 k z h2 (by omega), Int.mul_zero, Int.sub_zero]
  have end_ : ∀ d, z + d ≤ m → mt_rf B 0 (z + d) v z = mt_rf B 0 z v z := by
    intro d
    induction d with
    | zero => exact fun _ => rfl
    | succ d ih => intro hd; rw [← Nat.add_assoc, same (z + d) (by omega) (by omega)]; exact ih (by omega)
  have e := end_ (m - z) (by omega)
  rw [show z + (m - z) = m by omega] at e
  rw [e]
  have v0 := hv z hz
  have c0 : gd_c M 0 = 0 := rfl
  have c1 : gd_c M 1 = M := by show 2 * 0 + M = M; omega
  have s0 : mt_rf B 0 0 v z = v z := rfl
  rcases (show z = 0 ∨ z = 1 ∨ z = 2 by omega) with e | e | e
  · subst e; rw [s0, if_pos rfl]; omega
  · subst e
    have h1 := stb 0 (by omega)
    rw [s0, c0] at h1
    rw [if_neg (by omega), if_pos rfl, Nat.one_mul]
    have h2 : (M + 0) * c ≤ M * c := Nat.mul_le_mul_right _ (by omega)
    have h3 : (mt_rf B 0 1 v 1).natAbs ≤ (v 1).natAbs + (M + 0) * c := h1
    omega
  · subst e
    have h1 := stb 0 (by omega)
    have h2 := stb 1 (by omega)
    rw [s0, c0] at h1
    rw [c1] at h2
    have h1' : (mt_rf B 0 1 v 2).natAbs ≤ (v 2).natAbs + (M + 0) * c := h1
    have h2' : (mt_rf B 0 2 v 2).natAbs ≤ (mt_rf B 0 1 v 2).natAbs + (M + M) * c := h2
    rw [if_neg (by omega), if_neg (by omega)]
    have h3 : (M + 0) * c + (M + M) * c = 3 * M * c := by rw [← Nat.add_mul]; congr 1; omega
    omega
/-- what is left of an image of what comes back: no number leaves a long -/
theorem gz_num {S : Nat → Int32} {gn gc : Nat → Nat} {k p r : Nat} {y : Nat → Int} (hW : rl_Wg S) (hWm : rl_Wm S) (hsn : ∀ g, g < 6 → S (14 * g) = nI (gn g) ∧ gn g ≤ 3) (hsc : ∀ g, g < 6 → S (14 * g + 1) = nI (gc g) ∧ gc g ≤ 4) (hM : ax_Mp S k p r (gn p) (gn r)) (hy : ∀ j, (y j).natAbs ≤ 68419840104) :
    (∀ z, z < gn r → (mt_rf (mt_N S gn gc r) 0 (gn r) y z).natAbs ≤ 69000000000000) ∧ ∀ z, z < gn r → mx_H S gn gc k p r z z ≠ 0 → mt_ok (mt_rf (mx_H S gn gc k p r) 0 z (mx_v (gn r) (mt_rf (mt_N S gn gc r) 0 (gn r) y)) z) := by
  obtain ⟨m1, m2, m3, -⟩ := id hM
  have hm := (hsn r m3).2
  have hn := (hsn p m2).2
  obtain ⟨⟨hH, s1, s2⟩, hl, -⟩ := mx_Hf hW hWm hsn hsc hM
  obtain ⟨h1, h2, h3, h4⟩ := mx_own hW hsn hsc m3
  have hB := h2.1
  have ld := (gy_own hW hsn hsc m3).2
  have inl : ∀ z, z < gn r → mt_N S gn gc r z z ≠ 0 → (mt_rf (mt_N S gn gc r) 0 (gn r) y z).natAbs ≤ 4374 ∧ (mx_H S gn gc k p r z z).natAbs ≤ 4374 := fun z hz hne => by
    have g1 := mt_rf.in (v := y) hB.1 hB.2.1 (gn r) (by omega) z (Nat.zero_le _) (by omega) hne
    have g2 := ld z hz
    have g3 := gz_h hH.ec s2 (fun k j hk hj => hB.1 k j hk hj) hz hne
    omega
  rcases gx_own hm h1 h2 h3 h4 with ⟨e, a1, a2, a3, a4⟩ | ⟨b1, b2, b3⟩ | ⟨c1, c2⟩
  · refine ⟨fun z hz => ?_, gz_ok (σ := fun _ => 4374) (η := fun _ => 4374) hm hH (fun z hz _ => inl z hz (a2 z (by omega))) (by decide) (by decide) (by decide)⟩
    have := (inl z hz (a2 z (by omega))).1
    omega
  · obtain ⟨c1, d1, e1⟩ := b1.2.2.2.2.1
    have gs : ∀ z, z < gn r → mt_N S gn gc r z z = 0 → (mt_rf (mt_N S gn gc r) 0 (gn r) y z).natAbs ≤ 66572504421192 := fun z hz h0 =>
      Nat.le_trans (gy_s (M := 68419840104) (c := 324) hm hB (fun j _ => hy j) (fun k j hk => by have := e1 k j hk; omega) hz h0) (by decide)
    have all : ∀ z, z < gn r → (mt_rf (mt_N S gn gc r) 0 (gn r) y z).natAbs ≤ 69000000000000 := fun z hz => by
      by_cases c : mt_N S gn gc r z z = 0
      · have := gs z hz c; omega
      · have := (inl z hz c).1; omega
    refine ⟨all, ?_⟩
    rcases b3 with ⟨e2, d1, d2⟩ | ⟨e3, k0, k1, k2, k3⟩
    · exact gz_ok (σ := fun _ => 4374) (η := fun _ => 4374) hm hH (fun z hz _ => inl z hz (d1 z (by omega))) (by decide) (by decide) (by decide)
    · have nl : ∀ z, z < gn r → (mt_rf (mt_N S gn gc r) 0 (gn r) y z).natAbs ≤ (if z = k0 then 66572504421192 else 4374) ∧ (mx_H S gn gc k p r z z).natAbs ≤ (if z = k0 then 26198073 else 4374) := fun z hz => by
        by_cases c : z = k0
        · rw [if_pos c, if_pos c]
          exact ⟨gs z hz (by rw [c]; exact k2 k0), hl z (by omega)⟩
        · rw [if_neg c, if_neg c]
          exact inl z hz (k3 z (by omega) c)
      rcases (show k0 = 0 ∨ k0 = 1 ∨ k0 = 2 by omega) with e | e | e
      · subst e; exact gz_ok (σ := fun z => if z = 0 then 66572504421192 else 4374) (η := fun z => if z = 0 then 26198073 else 4374) hm hH (fun z hz _ => nl z hz) (by decide) (by decide) (by decide)
      · subst e; exact gz_ok (σ := fun z => if z = 1 then 66572504421192 else 4374) (η := fun z => if z = 1 then 26198073 else 4374) hm hH (fun z hz _ => nl z hz) (by decide) (by decide) (by decide)
      · subst e; exact gz_ok (σ := fun z => if z = 2 then 66572504421192 else 4374) (η := fun z => if z = 2 then 26198073 else 4374) hm hH (fun z hz _ => nl z hz) (by decide) (by decide) (by decide)
  · obtain ⟨c3, d1, e1⟩ := c1.2.2.2.2.1
    have hK := gd_T.K hH.ec hH.2.1 s1 s2 (gz_K (n := gn p) c1 hn (mx_t.b hWm hM))
    have hl2 : ∀ z, z < gn r → (mx_H S gn gc k p r z z).natAbs ≤ 5821794 := fun z hz => Nat.le_trans (gd_T.lead hH.ec hH.2.1 (show z < gn r + gn p by omega)) hK
    have gs : ∀ z, z < gn r → (mt_rf (mt_N S gn gc r) 0 (gn r) y z).natAbs ≤ (if z = 0 then 68419840104 else if z = 1 then 684198401040 else 1915755522912) := fun z hz => by
      by_cases h0 : mt_N S gn gc r z z = 0
      · have g := gy_s3 (M := 68419840104) (c := 9) hm hB (fun j _ => hy j) (fun k j hk => by have := e1 k j hk; omega) hz h0
        rcases (show z = 0 ∨ z = 1 ∨ z = 2 by omega) with e | e | e
        · subst e; exact g
        · subst e; exact g
        · subst e; exact g
      · have := (inl z hz h0).1
        split
        · omega
        · split <;> omega
    refine ⟨fun z hz => ?_, gz_ok (σ := fun z => if z = 0 then 68419840104 else if z = 1 then 684198401040 else 1915755522912) (η := fun _ => 5821794) hm hH (fun z hz _ => ⟨gs z hz, hl2 z hz⟩) (by decide) (by decide) (by decide)⟩
    have := gs z hz
    split at this
    · omega
    · split at this <;> omega
/-- nothing is left in the first places: it comes back -/
theorem gz_back {m n : Nat} {Y : ax_L} {H : Nat → Nat → Int} {s : Nat → Int} (hm : m ≤ 3) (hn : n ≤ 3) (hH : mt_hn (m + n) H) (hlb : ∀ k, k < m + n → (H k k).natAbs ≤ 26198073) (ok : ∀ k, k < m → H k k ≠ 0 → mt_ok (mt_rf H 0 k (mx_v m s) k)) (h3 : mt_at Y 647 H) (hYq : ∀ z, z < m → Y 655 z = Int64.ofInt (s z)) (h0 : ∀ z, z < m → mt_rf H 0 m (mx_v m s) z = 0) : (ax_cb 639 n m Y).1 = true := by
  have hld : ∀ k, k < m + n → mt_ok (H k k) := fun k hk => by have := hlb k hk; unfold mt_ok; omega
  have f0 : ∀ z, z < 6 → ax_cb1 639 m 6 Y (639 + 11) z = Int64.ofInt (mx_v m s z) := fun z hz => by
    rw [mx_cb1, if_pos ⟨rfl, hz⟩]
    unfold mx_v
    by_cases c : z < m
    · rw [if_pos c, if_pos c]; exact hYq z c
    · rw [if_neg c, if_neg c]; rfl
  obtain ⟨e1, e2⟩ := mx_cb2 (m := 639) (w := m + n) (L := ax_cb1 639 m 6 Y) (H := H) (v := mx_v m s) (by omega) (fun i j hi hj => by rw [mx_cb1, if_neg (by omega)]; exact h3 i j hi hj) (fun k hk => ⟨hld k hk, hH.2.1 k hk⟩) f0 m (by omega) (fun k hk hne => ok k hk hne)
  have rc1 : (ax_cb 639 n m Y).1 = ax_all0 (ax_cb2 639 m (ax_cb1 639 m 6 Y)) (639 + 11) 0 m := rfl
  rw [rc1, gw_all0]
  exact fun z hz => by rw [e2 z (by omega), h0 z hz]; rfl

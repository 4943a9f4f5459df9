/-! ===== the greatest determinants of a map's rows ===== -/
theorem gy_set2 {Z : Nat → Nat → Int} {a b : Nat} (hab : a ≠ b) : mt_set (mt_set Z a (Z a)) b (Z b) = Z := by
  rw [mt_set_self, mt_set_self]
theorem gy_set3 {Z : Nat → Nat → Int} {a b c : Nat} : mt_set (mt_set (mt_set Z c (Z c)) a (Z a)) b (Z b) = Z := by
  rw [mt_set_self, mt_set_self, mt_set_self]
theorem gy_un {w : Nat} {Y : Nat → Nat → Int} (h : ∀ a, a < w → ∃ j, Y a = gd_E j) : (gd w Y).natAbs ≤ 1 := gx_u w Y (fun a ha => Or.inr (h a ha))
theorem gy_core {w m : Nat} {Z : Nat → Nat → Int} {A T : Nat → Prop} (hm : m ≤ 3) (hw : m ≤ w) (cls : ∀ a, a < w → A a ∨ T a ∨ ∃ j, Z a = gd_E j) (bA : ∀ a, a < w → A a → (∀ j, (Z a j).natAbs ≤ 324) ∧ ∀ j, m ≤ j → Z a j = 0) (bT : ∀ a, a < w → T a → (∀ j, (Z a j).natAbs ≤ 99) ∧ ∀ j, m ≤ j → Z a j = 0) (hF : ∀ Y : Nat → Nat → Int, (∀ a, a < w → (A a ∧ Y a = Z a) ∨ ∃ j, Y a = gd_E j) → (gd w Y).natAbs ≤ 972) : (gd w Z).natAbs ≤ 19053144 := by
  by_cases t0 : ∃ b, b < w ∧ T b ∧ ¬ A b
  case neg =>
    exact Nat.le_trans (hF Z (fun a ha => by
      by_cases c : A a
      · exact Or.inl ⟨c, rfl⟩
      · rcases cls a ha with h | h | h
        · exact absurd h c
        · exact absurd ⟨a, ha, h, c⟩ t0
        · exact Or.inr h)) (by decide)
  obtain ⟨b0, hb0, tb0, ab0⟩ := t0
  by_cases t1 : ∃ b, b < w ∧ b ≠ b0 ∧ T b ∧ ¬ A b
  case neg =>
    have key := gx_e (Z := Z) (c := 99) (B := 972) hm hb0 (bT b0 hb0 tb0).1 (bT b0 hb0 tb0).2 (fun i => hF _ (fun a ha => by
      by_cases e : a = b0
      · subst e; rw [mt_set_i]; exact Or.inr ⟨i, rfl⟩
      · rw [mt_set_n e]
        by_cases c : A a
        · exact Or.inl ⟨c, rfl⟩
        · rcases cls a ha with h | h | h
          · exact absurd h c
          · exact absurd ⟨a, ha, e, h, c⟩ t1
          · exact Or.inr h))
    rw [mt_set_self] at key
    exact Nat.le_trans key (by decide)
  obtain ⟨b1, hb1, n10, tb1, ab1⟩ := t1
  by_cases t2 : ∃ b, b < w ∧ b ≠ b0 ∧ b ≠ b1 ∧ T b ∧ ¬ A b
  case pos =>
    obtain ⟨b2, hb2, n20, n21, tb2, ab2⟩ := t2
    by_cases o : ∃ a, a < w ∧ a ≠ b0 ∧ a ≠ b1 ∧ a ≠ b2 ∧ (A a ∨ T a)
    · obtain ⟨a, ha, x0, x1, x2, h⟩ := o
      have hz : ∀ j, m ≤ j → Z a j = 0 := by
        rcases h with h | h
        · exact (bA a ha h).2
        · exact (bT a ha h).2
      rw [gx_4 hm hb0 hb1 hb2 ha (Ne.symm n10) (Ne.symm n20) (Ne.symm x0) (Ne.symm n21) (Ne.symm x1) (Ne.symm x2) (bT b0 hb0 tb0).2 (bT b1 hb1 tb1).2 (bT b2 hb2 tb2).2 hz]
      exact Nat.zero_le _
    · have key := gy_three (Z := Z) (a := b0) (b := b1) (c := b2) hm hw hb0 hb1 hb2 (Ne.symm n10) (Ne.symm n20) (Ne.symm n21) (bT b0 hb0 tb0).1 (bT b1 hb1 tb1).1 (bT b2 hb2 tb2).1 (bT b0 hb0 tb0).2 (bT b1 hb1 tb1).2 (bT b2 hb2 tb2).2 (fun i k l => gy_un (fun a ha => by
        by_cases e1 : a = b1
        · subst e1; rw [mt_set_i]; exact ⟨k, rfl⟩
        · rw [mt_set_n e1]
          by_cases e0 : a = b0
          · subst e0; rw [mt_set_i]; exact ⟨i, rfl⟩
          · rw [mt_set_n e0]
            by_cases e2 : a = b2
            · subst e2; rw [mt_set_i]; exact ⟨l, rfl⟩
            · rw [mt_set_n e2]
              rcases cls a ha with h | h | h
              · exact absurd ⟨a, ha, e0, e1, e2, Or.inl h⟩ o
              · exact absurd ⟨a, ha, e0, e1, e2, Or.inr h⟩ o
              · exact h))
      rw [gy_set3] at key
      exact Nat.le_trans key (by decide)
  case neg =>
    by_cases o : ∃ a, a < w ∧ A a
    case neg =>
      have key := gx_e (Z := Z) (c := 99) (B := 297) hm hb0 (bT b0 hb0 tb0).1 (bT b0 hb0 tb0).2 (fun i => by
        have k2 := gx_e (Z := mt_set Z b0 (gd_E i)) (a := b1) (c := 99) (B := 1) hm hb1 (bT b1 hb1 tb1).1 (bT b1 hb1 tb1).2 (fun k => gy_un (fun a ha => by
          by_cases e1 : a = b1
          · subst e1; rw [mt_set_i]; exact ⟨k, rfl⟩
          · rw [mt_set_n e1]
            by_cases e0 : a = b0
            · subst e0; rw [mt_set_i]; exact ⟨i, rfl⟩
            · rw [mt_set_n e0]
              rcases cls a ha with h | h | h
              · exact absurd ⟨a, ha, h⟩ o
              · exact absurd ⟨a, ha, e0, e1, h, fun y => o ⟨a, ha, y⟩⟩ t2
              · exact h))
        have e : mt_set (mt_set Z b0 (gd_E i)) b1 (Z b1) = mt_set Z b0 (gd_E i) := by
          have : Z b1 = mt_set Z b0 (gd_E i) b1 := (mt_set_n n10).symm
          rw [this, mt_set_self]
        rw [e] at k2
        exact Nat.le_trans k2 (by decide))
      rw [mt_set_self] at key
      exact Nat.le_trans key (by decide)
    obtain ⟨a3, ha3, oa3⟩ := o
    have x0 : a3 ≠ b0 := fun e => ab0 (by rw [← e]; exact oa3)
    have x1 : a3 ≠ b1 := fun e => ab1 (by rw [← e]; exact oa3)
    by_cases o2 : ∃ a, a < w ∧ a ≠ a3 ∧ A a
    · obtain ⟨a4, ha4, n43, oa4⟩ := o2
      have y0 : a4 ≠ b0 := fun e => ab0 (by rw [← e]; exact oa4)
      have y1 : a4 ≠ b1 := fun e => ab1 (by rw [← e]; exact oa4)
      rw [gx_4 hm hb0 hb1 ha3 ha4 (Ne.symm n10) (Ne.symm x0) (Ne.symm y0) (Ne.symm x1) (Ne.symm y1) (Ne.symm n43) (bT b0 hb0 tb0).2 (bT b1 hb1 tb1).2 (bA a3 ha3 oa3).2 (bA a4 ha4 oa4).2]
      exact Nat.zero_le _
    · have key := gy_three (Z := Z) (a := b0) (b := b1) (c := a3) hm hw hb0 hb1 ha3 (Ne.symm n10) (Ne.symm x0) (Ne.symm x1) (bT b0 hb0 tb0).1 (bT b1 hb1 tb1).1 (bA a3 ha3 oa3).1 (bT b0 hb0 tb0).2 (bT b1 hb1 tb1).2 (bA a3 ha3 oa3).2 (fun i k l => gy_un (fun a ha => by
        by_cases e1 : a = b1
        · subst e1; rw [mt_set_i]; exact ⟨k, rfl⟩
        · rw [mt_set_n e1]
          by_cases e0 : a = b0
          · subst e0; rw [mt_set_i]; exact ⟨i, rfl⟩
          · rw [mt_set_n e0]
            by_cases e2 : a = a3
            · subst e2; rw [mt_set_i]; exact ⟨l, rfl⟩
            · rw [mt_set_n e2]
              by_cases c : A a
              · exact absurd ⟨a, ha, e2, c⟩ o2
              · rcases cls a ha with h | h | h
                · exact absurd h c
                · exact absurd ⟨a, ha, e0, e1, h, c⟩ t2
                · exact h))
      rw [gy_set3] at key
      exact Nat.le_trans key (by decide)
/-- the same beside a short row with a single 1 -/
theorem gy_core1 {w m r q : Nat} {Z : Nat → Nat → Int} {A T : Nat → Prop} (hm : m ≤ 3) (hw : m ≤ w) (hr : r < w) (hq : q < m) (er : Z r = gd_E q) (cls : ∀ a, a < w → A a ∨ T a ∨ ∃ j, Z a = gd_E j) (bA : ∀ a, a < w → A a → (∀ j, (Z a j).natAbs ≤ 324) ∧ ∀ j, m ≤ j → Z a j = 0) (bT : ∀ a, a < w → T a → (∀ j, (Z a j).natAbs ≤ 99) ∧ ∀ j, m ≤ j → Z a j = 0) (hF : ∀ Y : Nat → Nat → Int, (∀ a, a < w → (A a ∧ Y a = Z a) ∨ ∃ j, Y a = gd_E j) → (gd w Y).natAbs ≤ 972) : (gd w Z).natAbs ≤ 64152 := by
  have zr : ∀ j, m ≤ j → Z r j = 0 := fun j hj => by rw [er]; exact gd_En (by omega)
  by_cases t0 : ∃ b, b < w ∧ b ≠ r ∧ T b ∧ ¬ A b
  case neg =>
    exact Nat.le_trans (hF Z (fun a ha => by
      by_cases c : A a
      · exact Or.inl ⟨c, rfl⟩
      · by_cases e : a = r
        · subst e; exact Or.inr ⟨q, er⟩
        · rcases cls a ha with h | h | h
          · exact absurd h c
          · exact absurd ⟨a, ha, e, h, c⟩ t0
          · exact Or.inr h)) (by decide)
  obtain ⟨b0, hb0, nb0, tb0, ab0⟩ := t0
  by_cases t1 : ∃ b, b < w ∧ b ≠ r ∧ b ≠ b0 ∧ T b ∧ ¬ A b
  case pos =>
    obtain ⟨b1, hb1, nb1, n10, tb1, ab1⟩ := t1
    by_cases o : ∃ a, a < w ∧ a ≠ b0 ∧ a ≠ b1 ∧ a ≠ r ∧ (A a ∨ T a)
    · obtain ⟨a, ha, x0, x1, x2, h⟩ := o
      have hz : ∀ j, m ≤ j → Z a j = 0 := by
        rcases h with h | h
        · exact (bA a ha h).2
        · exact (bT a ha h).2
      rw [gx_4 hm hb0 hb1 hr ha (Ne.symm n10) nb0 (Ne.symm x0) nb1 (Ne.symm x1) (Ne.symm x2) (bT b0 hb0 tb0).2 (bT b1 hb1 tb1).2 zr hz]
      exact Nat.zero_le _
    · have key := gy_two (Z := Z) (a := b0) (b := b1) (r := r) hm hw hb0 hb1 hr (Ne.symm n10) nb0 nb1 (by omega) er (bT b0 hb0 tb0).1 (bT b1 hb1 tb1).1 (bT b0 hb0 tb0).2 (bT b1 hb1 tb1).2 (fun i k => gy_un (fun a ha => by
        by_cases e1 : a = b1
        · subst e1; rw [mt_set_i]; exact ⟨k, rfl⟩
        · rw [mt_set_n e1]
          by_cases e0 : a = b0
          · subst e0; rw [mt_set_i]; exact ⟨i, rfl⟩
          · rw [mt_set_n e0]
            by_cases e2 : a = r
            · rw [e2]; exact ⟨q, er⟩
            · rcases cls a ha with h | h | h
              · exact absurd ⟨a, ha, e0, e1, e2, Or.inl h⟩ o
              · exact absurd ⟨a, ha, e0, e1, e2, Or.inr h⟩ o
              · exact h))
      rw [gy_set2 (Ne.symm n10)] at key
      exact Nat.le_trans key (by decide)
  case neg =>
    by_cases o : ∃ a, a < w ∧ a ≠ r ∧ A a
    case neg =>
      have key := gx_e (Z := Z) (c := 99) (B := 1) hm hb0 (bT b0 hb0 tb0).1 (bT b0 hb0 tb0).2 (fun i => gy_un (fun a ha => by
        by_cases e0 : a = b0
        · subst e0; rw [mt_set_i]; exact ⟨i, rfl⟩
        · rw [mt_set_n e0]
          by_cases e2 : a = r
          · rw [e2]; exact ⟨q, er⟩
          · rcases cls a ha with h | h | h
            · exact absurd ⟨a, ha, e2, h⟩ o
            · exact absurd ⟨a, ha, e2, e0, h, fun y => o ⟨a, ha, e2, y⟩⟩ t1
            · exact h))
      rw [mt_set_self] at key
      exact Nat.le_trans key (by decide)
    obtain ⟨a3, ha3, n3, oa3⟩ := o
    have x0 : a3 ≠ b0 := fun e => ab0 (by rw [← e]; exact oa3)
    by_cases o2 : ∃ a, a < w ∧ a ≠ r ∧ a ≠ a3 ∧ A a
    · obtain ⟨a4, ha4, n4, n43, oa4⟩ := o2
      have y0 : a4 ≠ b0 := fun e => ab0 (by rw [← e]; exact oa4)
      rw [gx_4 hm hb0 hr ha3 ha4 nb0 (Ne.symm x0) (Ne.symm y0) (Ne.symm n3) (Ne.symm n4) (Ne.symm n43) (bT b0 hb0 tb0).2 zr (bA a3 ha3 oa3).2 (bA a4 ha4 oa4).2]
      exact Nat.zero_le _
    · have key := gy_two (Z := Z) (a := a3) (b := b0) (r := r) hm hw ha3 hb0 hr x0 n3 nb0 (by omega) er (bA a3 ha3 oa3).1 (bT b0 hb0 tb0).1 (bA a3 ha3 oa3).2 (bT b0 hb0 tb0).2 (fun i k => gy_un (fun a ha => by
        by_cases e1 : a = b0
        · subst e1; rw [mt_set_i]; exact ⟨k, rfl⟩
        · rw [mt_set_n e1]
          by_cases e0 : a = a3
          · subst e0; rw [mt_set_i]; exact ⟨i, rfl⟩
          · rw [mt_set_n e0]
            by_cases e2 : a = r
            · rw [e2]; exact ⟨q, er⟩
            · by_cases c : A a
              · exact absurd ⟨a, ha, e2, e0, c⟩ o2
              · rcases cls a ha with h | h | h
                · exact absurd h c
                · exact absurd ⟨a, ha, e2, e1, h, c⟩ t1
                · exact h))
      rw [gy_set2 x0] at key
      exact Nat.le_trans key (by decide)
/-- a map's rows -/
theorem gy_K {m n : Nat} {O t : Nat → Nat → Int} (hO : gx_O m 972 O) (hn : n ≤ 3) (ht : ∀ i j, (t i j).natAbs ≤ 99) : gd_F (m + n) (fun u => ∃ r, r < m + n ∧ u = gx_X m n O t r) 19053144 := by
  intro Z hZ
  refine gy_S hO.2.2.2.1 n 0 (by omega) Z (fun a ha => gx_P0 (t := t) (hZ a ha)) (fun Z' h1 _ => ?_)
  obtain ⟨c1, d1, e1⟩ := hO.2.2.2.2.1
  refine gy_core (A := fun a => ∃ k, k < m ∧ Z' a = O k) (T := fun a => ∃ i, i < n ∧ Z' a = gx_t m t i) hO.1 (Nat.le_add_right m n) (fun a ha => gx_Pn hn (h1 a ha)) (fun a _ ⟨k, k1, k2⟩ => ⟨fun j => ?_, fun j hj => ?_⟩) (fun a _ ⟨i, i1, i2⟩ => ⟨fun j => ?_, fun j hj => ?_⟩) (fun Y hY => hO.F (Nat.le_add_right m n) Y (fun a ha => (hY a ha).imp (fun ⟨⟨k, k1, k2⟩, h⟩ => ⟨k, k1, h.trans k2⟩) id))
  · rw [k2]; have := e1 k j k1; omega
  · rw [k2]; exact hO.2.2.2.1 k j k1 hj
  · rw [i2]; exact gx_t.b ht i j
  · rw [i2]; exact gx_t.z hj
theorem gy_K1 {m n r q : Nat} {O t Z : Nat → Nat → Int} (hO : gx_O m 972 O) (hn : n ≤ 3) (ht : ∀ i j, (t i j).natAbs ≤ 99) (hr : r < m + n) (hq : q < m) (er : Z r = gd_E q) (hZ : ∀ a, a < m + n → (∃ r, r < m + n ∧ Z a = gx_X m n O t r) ∨ ∃ j, Z a = gd_E j) : (gd (m + n) Z).natAbs ≤ 64152 := by
  refine gy_S hO.2.2.2.1 n 0 (by omega) Z (fun a ha => gx_P0 (t := t) (hZ a ha)) (fun Z' h1 h2 => ?_)
  obtain ⟨c1, d1, e1⟩ := hO.2.2.2.2.1
  have er' : Z' r = gd_E q := (h2 r hr (fun j hj => by rw [er]; exact gd_En (by omega))).trans er
  refine gy_core1 (A := fun a => ∃ k, k < m ∧ Z' a = O k) (T := fun a => ∃ i, i < n ∧ Z' a = gx_t m t i) hO.1 (Nat.le_add_right m n) hr hq er' (fun a ha => gx_Pn hn (h1 a ha)) (fun a _ ⟨k, k1, k2⟩ => ⟨fun j => ?_, fun j hj => ?_⟩) (fun a _ ⟨i, i1, i2⟩ => ⟨fun j => ?_, fun j hj => ?_⟩) (fun Y hY => hO.F (Nat.le_add_right m n) Y (fun a ha => (hY a ha).imp (fun ⟨⟨k, k1, k2⟩, h⟩ => ⟨k, k1, h.trans k2⟩) id))
  · rw [k2]; have := e1 k j k1; omega
  · rw [k2]; exact hO.2.2.2.1 k j k1 hj
  · rw [i2]; exact gx_t.b ht i j
  · rw [i2]; exact gx_t.z hj

/-! ===== determinants of all rows of a map; the leads of what they span ===== -/
theorem gx_t.b {m : Nat} {t : Nat → Nat → Int} (ht : ∀ i j, (t i j).natAbs ≤ 99) (i j : Nat) : (gx_t m t i j).natAbs ≤ 99 := by
  unfold gx_t
  split
  · exact ht i j
  · exact Nat.zero_le _
theorem gx_t.z {m i j : Nat} {t : Nat → Nat → Int} (hj : m ≤ j) : gx_t m t i j = 0 := if_neg (by omega)
theorem gx_P0 {m n a : Nat} {O t Z : Nat → Nat → Int} (h : (∃ r, r < m + n ∧ Z a = gx_X m n O t r) ∨ ∃ j, Z a = gd_E j) : gx_P m n O t 0 (Z a) ∨ ∃ j, Z a = gd_E j := by
  rcases h with ⟨r, hr, e⟩ | h
  · by_cases c : r < m
    · exact Or.inl (Or.inl ⟨r, c, e.trans (gx_X.o c)⟩)
    · exact Or.inl (Or.inr (Or.inr ⟨r - m, Nat.zero_le _, by omega, by rw [show m + (r - m) = r by omega]; exact e⟩))
  · exact Or.inr h
theorem gx_Pn {m n a : Nat} {O t Z : Nat → Nat → Int} (hn : n ≤ 3) (h : gx_P m n O t n (Z a) ∨ ∃ j, Z a = gd_E j) : (∃ k, k < m ∧ Z a = O k) ∨ (∃ i, i < n ∧ Z a = gx_t m t i) ∨ ∃ j, Z a = gd_E j := by
  rcases h with (h | ⟨i', h1, h2, h3⟩ | ⟨i', h1, h2, -⟩) | h
  · exact Or.inl h
  · exact Or.inr (Or.inl ⟨i', h2, h3⟩)
  · exact absurd h1 (by omega)
  · exact Or.inr (Or.inr h)
theorem gx_K2 {w m κ i k : Nat} {O t : Nat → Nat → Int} (hw : m ≤ w) (hO : gx_O m κ O) (ht : ∀ i j, (t i j).natAbs ≤ 99) : gd_F w (fun u => ((∃ k, k < m ∧ u = O k) ∨ u = gx_t m t i) ∨ u = gx_t m t k) (297 * (297 * κ)) :=
  gd_F.tau hO.1 (gx_t.b ht k) (fun j hj => gx_t.z hj) (gd_F.tau hO.1 (gx_t.b ht i) (fun j hj => gx_t.z hj) (hO.F hw))
theorem gx_K {m n κ : Nat} {O t : Nat → Nat → Int} (hO : gx_O m κ O) (hn : n ≤ 3) (ht : ∀ i j, (t i j).natAbs ≤ 99) : gd_F (m + n) (fun u => ∃ r, r < m + n ∧ u = gx_X m n O t r) (max (297 * (297 * κ)) 26198073) := by
  intro Z hZ
  refine gx_s hO.2.2.2.1 n 0 (by omega) Z (fun a ha => gx_P0 (t := t) (hZ a ha)) (fun Z' h1 _ => ?_)
  have h2 := fun a ha => gx_Pn hn (h1 a ha)
  have hm := hO.1
  have mx1 := Nat.le_max_left (297 * (297 * κ)) 26198073
  have mx2 := Nat.le_max_right (297 * (297 * κ)) 26198073
  have F2 : ∀ i k, (∀ a, a < m + n → ∀ l, l < n → Z' a = gx_t m t l → Z' a = gx_t m t i ∨ Z' a = gx_t m t k) → (gd (m + n) Z').natAbs ≤ max (297 * (297 * κ)) 26198073 := fun i k h => by
    have := gx_K2 (i := i) (k := k) (Nat.le_add_right m n) hO ht Z' (fun a ha => by
      rcases h2 a ha with h3 | ⟨l, h3, h4⟩ | h3
      · exact Or.inl (Or.inl (Or.inl h3))
      · rcases h a ha l h3 h4 with h5 | h5
        · exact Or.inl (Or.inl (Or.inr h5))
        · exact Or.inl (Or.inr h5)
      · exact Or.inr h3)
    omega
  by_cases o0 : ∃ a, a < m + n ∧ Z' a = gx_t m t 0
  case neg => exact F2 1 2 (fun a ha l hl e => by
    rcases (show l = 0 ∨ l = 1 ∨ l = 2 by omega) with rfl | rfl | rfl
    · exact absurd ⟨a, ha, e⟩ o0
    · exact Or.inl e
    · exact Or.inr e)
  by_cases o1 : ∃ a, a < m + n ∧ Z' a = gx_t m t 1
  case neg => exact F2 0 2 (fun a ha l hl e => by
    rcases (show l = 0 ∨ l = 1 ∨ l = 2 by omega) with rfl | rfl | rfl
    · exact Or.inl e
    · exact absurd ⟨a, ha, e⟩ o1
    · exact Or.inr e)
  by_cases o2 : ∃ a, a < m + n ∧ Z' a = gx_t m t 2
  case neg => exact F2 0 1 (fun a ha l hl e => by
    rcases (show l = 0 ∨ l = 1 ∨ l = 2 by omega) with rfl | rfl | rfl
    · exact Or.inl e
    · exact Or.inr e
    · exact absurd ⟨a, ha, e⟩ o2)
  obtain ⟨a0, ha0, e0⟩ := o0
  obtain ⟨a1, ha1, e1⟩ := o1
  obtain ⟨a2, ha2, e2⟩ := o2
  by_cases d01 : a0 = a1
  · have et : gx_t m t 0 = gx_t m t 1 := by rw [← e0, ← e1, d01]
    exact F2 1 2 (fun a ha l hl e => by
      rcases (show l = 0 ∨ l = 1 ∨ l = 2 by omega) with rfl | rfl | rfl
      · exact Or.inl (e.trans et)
      · exact Or.inl e
      · exact Or.inr e)
  by_cases d02 : a0 = a2
  · have et : gx_t m t 0 = gx_t m t 2 := by rw [← e0, ← e2, d02]
    exact F2 1 2 (fun a ha l hl e => by
      rcases (show l = 0 ∨ l = 1 ∨ l = 2 by omega) with rfl | rfl | rfl
      · exact Or.inr (e.trans et)
      · exact Or.inl e
      · exact Or.inr e)
  by_cases d12 : a1 = a2
  · have et : gx_t m t 1 = gx_t m t 2 := by rw [← e1, ← e2, d12]
    exact F2 0 2 (fun a ha l hl e => by
      rcases (show l = 0 ∨ l = 1 ∨ l = 2 by omega) with rfl | rfl | rfl
      · exact Or.inl e
      · exact Or.inr (e.trans et)
      · exact Or.inr e)
  by_cases o3 : ∃ a, a < m + n ∧ a ≠ a0 ∧ a ≠ a1 ∧ a ≠ a2 ∧ ∃ k, k < m ∧ Z' a = O k
  · obtain ⟨a3, ha3, n0, n1, n2, k, hk, e3⟩ := o3
    rw [gx_4 hm ha0 ha1 ha2 ha3 d01 d02 (Ne.symm n0) d12 (Ne.symm n1) (Ne.symm n2) (fun j hj => by rw [e0]; exact gx_t.z hj) (fun j hj => by rw [e1]; exact gx_t.z hj) (fun j hj => by rw [e2]; exact gx_t.z hj) (fun j hj => by rw [e3]; exact hO.2.2.2.1 k j hk hj)]
    exact Nat.zero_le _
  · have F3 : gd_F (m + n) (fun u => ((False ∨ u = gx_t m t 0) ∨ u = gx_t m t 1) ∨ u = gx_t m t 2) (297 * (297 * (297 * 1))) := gd_F.tau hm (gx_t.b ht 2) (fun j hj => gx_t.z hj) (gd_F.tau hm (gx_t.b ht 1) (fun j hj => gx_t.z hj) (gd_F.tau hm (gx_t.b ht 0) (fun j hj => gx_t.z hj) (gx_u (m + n))))
    have := F3 Z' (fun a ha => by
      by_cases c0 : a = a0
      · exact Or.inl (Or.inl (Or.inl (Or.inr (by rw [c0]; exact e0))))
      · by_cases c1 : a = a1
        · exact Or.inl (Or.inl (Or.inr (by rw [c1]; exact e1)))
        · by_cases c2 : a = a2
          · exact Or.inl (Or.inr (by rw [c2]; exact e2))
          · rcases h2 a ha with h3 | ⟨l, h3, h4⟩ | h3
            · exact absurd ⟨a, ha, c0, c1, c2, h3⟩ o3
            · rcases (show l = 0 ∨ l = 1 ∨ l = 2 by omega) with rfl | rfl | rfl
              · exact Or.inl (Or.inl (Or.inl (Or.inr h4)))
              · exact Or.inl (Or.inl (Or.inr h4))
              · exact Or.inl (Or.inr h4)
            · exact Or.inr h3)
    omega
/-- at most two rows of a table -/
theorem gx_Kt {m n κ : Nat} {O t : Nat → Nat → Int} (hO : gx_O m κ O) (hn : n ≤ 2) (ht : ∀ i j, (t i j).natAbs ≤ 99) : gd_F (m + n) (fun u => ∃ r, r < m + n ∧ u = gx_X m n O t r) (297 * (297 * κ)) := by
  intro Z hZ
  refine gx_s hO.2.2.2.1 n 0 (by omega) Z (fun a ha => gx_P0 (hZ a ha)) (fun Z' h1 _ => ?_)
  exact gx_K2 (i := 0) (k := 1) (Nat.le_add_right m n) hO ht Z' (fun a ha => by
    rcases gx_Pn (by omega) (h1 a ha) with h3 | ⟨l, h3, h4⟩ | h3
    · exact Or.inl (Or.inl (Or.inl h3))
    · rcases (show l = 0 ∨ l = 1 by omega) with rfl | rfl
      · exact Or.inl (Or.inl (Or.inr h4))
      · exact Or.inl (Or.inr h4)
    · exact Or.inr h3)
theorem gx_gd {m : Nat} {O t : Nat → Nat → Int} (hOz : ∀ k j, k < m → m ≤ j → O k j = 0) : ∀ n, gd (m + n) (gx_X m n O t) = gd m O := by
  intro n
  induction n with
  | zero => exact gd_cg m (fun i j hi _ => by rw [gx_X.o hi])
  | succ n ih =>
    rw [show m + (n + 1) = (m + n) + 1 by omega, gd_last (m + n) (fun i hi => by
      by_cases c : i < m
      · rw [gx_X.o c]; exact hOz i _ c (by omega)
      · unfold gx_X
        rw [if_neg c, if_pos (by omega), if_neg (by omega), if_neg (by omega)]), gx_X.t (by omega), if_neg (by omega), if_pos rfl, Int.one_mul, ← ih]
    exact gd_cg (m + n) (fun i j hi _ => by
      unfold gx_X
      by_cases c : i < m
      · rw [if_pos c, if_pos c]
      · rw [if_neg c, if_neg c, if_pos (by omega), if_pos hi])
theorem gd_qz {f : Nat → Int} : ∀ {n k : Nat}, k < n → f k = 0 → gd_q f n = 0 := by
  intro n
  induction n with
  | zero => intro k hk; exact absurd hk (Nat.not_lt_zero _)
  | succ n ih =>
    intro k hk h
    show gd_q f n * f n = 0
    by_cases e : k = n
    · subst e; rw [h, Int.mul_zero]
    · rw [ih (by omega) h, Int.zero_mul]
/-- all own rows lead -/
theorem gx_l1 {m n : Nat} {O t T : Nat → Nat → Int} (lo : ∀ k j, k < m → j < k → O k j = 0) (hOz : ∀ k j, k < m → m ≤ j → O k j = 0) (hne : ∀ k, k < m → O k k ≠ 0) (hT : mt_ec (m + n) T) (s1 : ∀ k, k < m + n → mt_sp (m + n) (gx_X m n O t) (T k)) (s2 : ∀ r, r < m + n → mt_sp (m + n) T (gx_X m n O t r)) : (gd (m + n) (gd_T T)).natAbs ≤ (gd_q (fun k => O k k) m).natAbs := by
  have e1 : gd (m + n) (gx_X m n O t) = gd_q (fun k => O k k) m := by rw [gx_gd hOz, gd_tri m (fun i j hi hj => lo i j hi hj)]
  have n1 : gd_q (fun k => O k k) m ≠ 0 := gd_q0 m hne
  have d2 : gd (m + n) T ∣ gd (m + n) (gx_X m n O t) := gd_dvn s2
  have e3 : gd (m + n) T = gd_q (fun k => T k k) (m + n) := gd_tri _ (fun i j hi hj => hT.1 i j hi hj)
  have tne : ∀ k, k < m + n → T k k ≠ 0 := fun k hk z => by
    rw [e3, gd_qz (f := fun k => T k k) hk z, e1] at d2
    exact n1 (Int.zero_dvd.mp d2)
  have e4 : gd (m + n) (gd_T T) = gd (m + n) T := gd_cg _ (fun i j hi _ => by unfold gd_T; rw [if_neg (tne i hi)])
  rw [e4]
  exact mt_dvb n1 (by rw [← e1]; exact d2) (Nat.le_refl _)
/-- one own row of three is nothing -/
theorem gx_l2 {n k0 κ : Nat} {O t T : Nat → Nat → Int} (hO : gx_O 3 κ O) (hn : n ≤ 3) (ht : ∀ i j, (t i j).natAbs ≤ 99) (hk0 : k0 < 3) (z0 : ∀ j, O k0 j = 0) (hec : mt_ec 3 O) (hne : ∀ k, k < 3 → k ≠ k0 → O k k ≠ 0) (hT : mt_ec (3 + n) T) (s1 : ∀ k, k < 3 + n → mt_sp (3 + n) (gx_X 3 n O t) (T k)) (s2 : ∀ r, r < 3 + n → mt_sp (3 + n) T (gx_X 3 n O t r)) : (gd (3 + n) (gd_T T)).natAbs ≤ 297 * κ := by
  obtain ⟨f, f1, f2, f3⟩ := gd_T.ex hT s1 s2
  refine Nat.le_trans f3 ?_
  have zrow : ∀ M : Nat → Nat → Int, ∀ r, r < 3 + n → (∀ j, M r j = 0) → gd (3 + n) M = 0 := fun M r hr hz => by
    have := gd_row (M := M) (M r) hr
    rw [mt_set_self] at this
    rw [this]
    exact mt_s_0 (fun i _ => by rw [hz i, Int.zero_mul])
  -- at most one place has no lead
  have one : ∀ e e', e < 3 + n → e' < 3 + n → e ≠ e' → T e e = 0 → T e' e' = 0 → False := fun e e' he he' hee h1 h2 => by
    have g1 : gd (3 + n) (mt_set T e (gd_E k0)) = 0 := zrow _ e' he' (fun j => by rw [mt_set_n (Ne.symm hee)]; exact hT.2 e' he' h2 j)
    have g2 : gd (3 + n) (gx_X 3 n (gd_T O) t) ≠ 0 := by
      rw [gx_gd (fun k j hk hj => by
        unfold gd_T
        split
        · exact gd_En (by omega)
        · exact hO.2.2.2.1 k j hk hj)]
      exact gd_T.ne hec
    have g3 : gd (3 + n) (mt_set T e (gd_E k0)) ∣ gd (3 + n) (gx_X 3 n (gd_T O) t) := gd_dvn (fun r hr => by
      by_cases c : r = k0
      · refine (mt_sp.row (X := mt_set T e (gd_E k0)) he).cg (fun j => ?_)
        rw [mt_set_i, c, gx_X.o hk0]
        unfold gd_T; rw [if_pos (z0 k0)]
      · have er : ∀ j, gx_X 3 n (gd_T O) t r j = gx_X 3 n O t r j := fun j => by
          unfold gx_X
          by_cases c3 : r < 3
          · rw [if_pos c3, if_pos c3]; unfold gd_T; rw [if_neg (hne r c3 c)]
          · rw [if_neg c3, if_neg c3]
        refine (mt_sp.le (fun i hi => ?_) (s2 r hr)).cg er
        by_cases d : i = e
        · refine mt_sp.zero.cg (fun j => ?_)
          rw [d]; exact hT.2 e he h1 j
        · refine (mt_sp.row (X := mt_set T e (gd_E k0)) hi).cg (fun j => ?_)
          rw [mt_set_n d])
    rw [g1] at g3
    exact g2 (Int.zero_dvd.mp g3)
  have XK0 : ∀ j, gx_X 3 n O t k0 j = 0 := fun j => by rw [gx_X.o hk0]; exact z0 j
  have hex : ∃ e, e < 3 + n ∧ T e e = 0 := by
    apply Classical.byContradiction
    intro hno
    have all : ∀ a, a < 3 + n → T a a ≠ 0 := fun a ha z => hno ⟨a, ha, z⟩
    have g : gd (3 + n) (gx_X 3 n O t) ∣ gd (3 + n) (fun a => if T a a = 0 then gd_E a else gx_X 3 n O t (f a)) := gd_dvn (fun a ha => by
      rw [if_neg (all a ha)]; exact mt_sp.row (f1 a ha (all a ha)))
    rw [zrow _ k0 (by omega) XK0] at g
    exact f2 (Int.zero_dvd.mp g)
  obtain ⟨e, he, ze⟩ := hex
  have nz : ∀ a, a < 3 + n → a ≠ e → T a a ≠ 0 := fun a ha hae z => one a e ha he hae z ze
  have use : ∀ r, r < 3 → r ≠ k0 → ∃ a, a < 3 + n ∧ a ≠ e ∧ f a = r := fun r hr hrk => by
    apply Classical.byContradiction
    intro hno
    have g : gd (3 + n) (mt_set (gx_X 3 n O t) r (gd_E e)) ∣ gd (3 + n) (fun a => if T a a = 0 then gd_E a else gx_X 3 n O t (f a)) := gd_dvn (fun a ha => by
      by_cases c : a = e
      · subst c
        rw [if_pos ze]
        exact (mt_sp.row (X := mt_set (gx_X 3 n O t) r (gd_E a)) (show r < 3 + n by omega)).cg (fun j => by rw [mt_set_i])
      · rw [if_neg (nz a ha c)]
        exact (mt_sp.row (X := mt_set (gx_X 3 n O t) r (gd_E e)) (f1 a ha (nz a ha c))).cg (fun j => by rw [mt_set_n (fun h => hno ⟨a, ha, c, h⟩)]))
    rw [zrow _ k0 (by omega) (fun j => by rw [mt_set_n (Ne.symm hrk)]; exact XK0 j)] at g
    exact f2 (Int.zero_dvd.mp g)
  have two : ∃ r1 r2, r1 < 3 ∧ r2 < 3 ∧ r1 ≠ k0 ∧ r2 ≠ k0 ∧ r1 ≠ r2 := by
    rcases (show k0 = 0 ∨ k0 = 1 ∨ k0 = 2 by omega) with rfl | rfl | rfl
    · exact ⟨1, 2, by omega, by omega, by omega, by omega, by omega⟩
    · exact ⟨0, 2, by omega, by omega, by omega, by omega, by omega⟩
    · exact ⟨0, 1, by omega, by omega, by omega, by omega, by omega⟩
  obtain ⟨r1, r2, hr1, hr2, n1, n2, n12⟩ := two
  obtain ⟨p1, hp1, pe1, q1⟩ := use r1 hr1 n1
  obtain ⟨p2, hp2, pe2, q2⟩ := use r2 hr2 n2
  have hp12 : p1 ≠ p2 := fun h => n12 (by rw [← q1, ← q2, h])
  have y1 : (fun a => if T a a = 0 then gd_E a else gx_X 3 n O t (f a)) p1 = O r1 := by
    show (if T p1 p1 = 0 then _ else _) = _
    rw [if_neg (nz p1 hp1 pe1), q1]; exact gx_X.o hr1
  have y2 : (fun a => if T a a = 0 then gd_E a else gx_X 3 n O t (f a)) p2 = O r2 := by
    show (if T p2 p2 = 0 then _ else _) = _
    rw [if_neg (nz p2 hp2 pe2), q2]; exact gx_X.o hr2
  refine gx_s (B := 297 * κ) hO.2.2.2.1 n 0 (by omega) (fun a => if T a a = 0 then gd_E a else gx_X 3 n O t (f a)) (fun a ha => gx_P0 (t := t) (Z := fun a => if T a a = 0 then gd_E a else gx_X 3 n O t (f a)) ?_) (fun Z' h1 h2 => ?_)
  · by_cases c : a = e
    · subst c; exact Or.inr ⟨a, if_pos ze⟩
    · exact Or.inl ⟨f a, f1 a ha (nz a ha c), if_neg (nz a ha c)⟩
  · have w1 := (h2 p1 hp1 ⟨r1, hr1, y1⟩).trans y1
    have w2 := (h2 p2 hp2 ⟨r2, hr2, y2⟩).trans y2
    have h3 := fun a ha => gx_Pn hn (h1 a ha)
    by_cases o1 : ∃ a, a < 3 + n ∧ a ≠ p1 ∧ a ≠ p2 ∧ ∃ i, i < n ∧ Z' a = gx_t 3 t i
    · obtain ⟨a, ha, na1, na2, i, hi, ea⟩ := o1
      by_cases o2 : ∃ b, b < 3 + n ∧ b ≠ p1 ∧ b ≠ p2 ∧ b ≠ a ∧ ∃ i, i < n ∧ Z' b = gx_t 3 t i
      · obtain ⟨b, hb, nb1, nb2, nba, i', hi', eb⟩ := o2
        rw [gx_4 (Nat.le_refl 3) hp1 hp2 ha hb hp12 (Ne.symm na1) (Ne.symm nb1) (Ne.symm na2) (Ne.symm nb2) (Ne.symm nba) (fun j hj => by rw [w1]; exact hO.2.2.2.1 r1 j hr1 hj) (fun j hj => by rw [w2]; exact hO.2.2.2.1 r2 j hr2 hj) (fun j hj => by rw [ea]; exact gx_t.z hj) (fun j hj => by rw [eb]; exact gx_t.z hj)]
        exact Nat.zero_le _
      · exact gd_F.tau (Nat.le_refl 3) (gx_t.b ht i) (fun j hj => gx_t.z hj) (hO.F (Nat.le_add_right 3 n)) Z' (fun b hb => by
          by_cases c1 : b = p1
          · exact Or.inl (Or.inl ⟨r1, hr1, by rw [c1]; exact w1⟩)
          · by_cases c2 : b = p2
            · exact Or.inl (Or.inl ⟨r2, hr2, by rw [c2]; exact w2⟩)
            · by_cases c3 : b = a
              · exact Or.inl (Or.inr (by rw [c3]; exact ea))
              · rcases h3 b hb with h4 | h4 | h4
                · exact Or.inl (Or.inl h4)
                · exact absurd ⟨b, hb, c1, c2, c3, h4⟩ o2
                · exact Or.inr h4)
    · have := hO.F (Nat.le_add_right 3 n) Z' (fun b hb => by
        by_cases c1 : b = p1
        · exact Or.inl ⟨r1, hr1, by rw [c1]; exact w1⟩
        · by_cases c2 : b = p2
          · exact Or.inl ⟨r2, hr2, by rw [c2]; exact w2⟩
          · rcases h3 b hb with h4 | h4 | h4
            · exact Or.inl h4
            · exact absurd ⟨b, hb, c1, c2, h4⟩ o1
            · exact Or.inr h4)
      omega

/-! ===== how far what a map reaches and its kernel go ===== -/
theorem rb_q {f : Nat → Int} {n : Nat} : ∀ d, (∀ k, k < n + d → 1 ≤ f k) → 1 ≤ gd_q f n ∧ gd_q f n ≤ gd_q f (n + d) := by
  have p1 : ∀ n, (∀ k, k < n → 1 ≤ f k) → 1 ≤ gd_q f n := by
    intro n
    induction n with
    | zero => intro _; exact Int.le_refl _
    | succ n ih =>
      intro h
      have h1 := ih (fun k hk => h k (by omega))
      have h2 := h n (by omega)
      have h3 := Int.mul_le_mul h1 h2 (by omega) (by omega)
      show 1 ≤ gd_q f n * f n
      omega
  intro d
  induction d with
  | zero => intro h; exact ⟨p1 n h, Int.le_refl _⟩
  | succ d ih =>
    intro h
    obtain ⟨h1, h2⟩ := ih (fun k hk => h k (by omega))
    refine ⟨h1, Int.le_trans h2 ?_⟩
    show _ ≤ gd_q f (n + d) * f (n + d)
    have h3 := Int.mul_le_mul_of_nonneg_left (h (n + d) (by omega)) (show 0 ≤ gd_q f (n + d) by omega)
    omega
theorem rb_qs {f : Nat → Int} {m : Nat} : ∀ n, gd_q f (m + n) = gd_q f m * gd_q (fun a => f (m + a)) n := by
  intro n
  induction n with
  | zero => show _ = _ * 1; rw [Int.mul_one]; rfl
  | succ n ih => show gd_q f (m + n) * f (m + n) = gd_q f m * (gd_q (fun a => f (m + a)) n * f (m + n)); rw [ih, Int.mul_assoc]
def rb_f (B : Nat → Nat → Int) : Nat → Int := fun k => if B k k = 0 then 1 else B k k
theorem rb_f1 {w : Nat} {B : Nat → Nat → Int} (hB : ∀ k, k < w → 0 ≤ B k k) : ∀ k, k < w → 1 ≤ rb_f B k := fun k hk => by
  unfold rb_f; have := hB k hk; split <;> omega
/-- products of leads -/
theorem rb_p {w Λ : Nat} {B : Nat → Nat → Int} (hw : w ≤ 3) (hB : cg_B w B) (hQ : (gd_q (rb_f B) w).natAbs ≤ Λ) :
    (∀ j, (B j j).natAbs ≤ Λ) ∧ (∀ j l, j ≠ l → (B j j).natAbs * (B l l).natAbs ≤ Λ) ∧ (B 0 0 * B 1 1 * B 2 2).natAbs ≤ Λ := by
  have h0 : ∀ k, 0 ≤ B k k := fun k => by
    by_cases h : k < w
    · exact hB.1.2.1 k h
    · rw [hB.out k k (by omega)]; exact Int.le_refl _
  have z : ∀ k, w ≤ k → B k k = 0 := fun k hk => hB.out k k hk
  have f1 : ∀ k, 1 ≤ rb_f B k := fun k => by
    unfold rb_f; have := h0 k; split <;> omega
  have fz : ∀ k, B k k ≤ rb_f B k := fun k => by
    unfold rb_f; split <;> omega
  have fo : ∀ k, w ≤ k → rb_f B k = 1 := fun k hk => by unfold rb_f; rw [if_pos (z k hk)]
  have e3 : gd_q (rb_f B) w = rb_f B 0 * rb_f B 1 * rb_f B 2 := by
    rcases (show w = 0 ∨ w = 1 ∨ w = 2 ∨ w = 3 by omega) with rfl | rfl | rfl | rfl
    · rw [fo 0 (by omega), fo 1 (by omega), fo 2 (by omega)]; rfl
    · rw [fo 1 (by omega), fo 2 (by omega)]; show 1 * rb_f B 0 = _; omega
    · rw [fo 2 (by omega)]; show 1 * _ * _ = _; rw [Int.one_mul, Int.mul_one]
    · show 1 * _ * _ * _ = _; rw [Int.one_mul]
  rw [e3] at hQ
  have a0 := f1 0
  have a1 := f1 1
  have a2 := f1 2
  have b0 := fz 0
  have b1 := fz 1
  have b2 := fz 2
  have c0 := h0 0
  have c1 := h0 1
  have c2 := h0 2
  have zz : ∀ k, 3 ≤ k → B k k = 0 := fun k hk => z k (by omega)
  have e0 : ∀ k, k < 3 → B k k ≤ rb_f B k := fun k _ => fz k
  generalize rb_f B 0 = x0 at *
  generalize rb_f B 1 = x1 at *
  generalize rb_f B 2 = x2 at *
  have p01 : 1 ≤ x0 * x1 := by have := Int.mul_le_mul a0 a1 (by omega) (by omega); omega
  have p012 : x0 * x1 ≤ x0 * x1 * x2 := by have := Int.mul_le_mul_of_nonneg_left a2 (show 0 ≤ x0 * x1 by omega); omega
  have q0 : x0 ≤ x0 * x1 := by have := Int.mul_le_mul_of_nonneg_left a1 (show 0 ≤ x0 by omega); omega
  have q1 : x1 ≤ x0 * x1 := by have := Int.mul_le_mul_of_nonneg_right a0 (show 0 ≤ x1 by omega); omega
  have q2 : x2 ≤ x0 * x1 * x2 := by have := Int.mul_le_mul_of_nonneg_right p01 (show 0 ≤ x2 by omega); omega
  have r02 : x0 * x2 ≤ x0 * x1 * x2 := by have := Int.mul_le_mul_of_nonneg_right q0 (show 0 ≤ x2 by omega); omega
  have r12 : x1 * x2 ≤ x0 * x1 * x2 := by have := Int.mul_le_mul_of_nonneg_right q1 (show 0 ≤ x2 by omega); omega
  have hX : x0 * x1 * x2 ≤ (Λ : Int) := by omega
  have two : ∀ a b x y : Int, 0 ≤ a → 0 ≤ b → a ≤ x → b ≤ y → a * b ≤ x * y := fun a b x y h1 h2 h3 h4 => Int.mul_le_mul h3 h4 h2 (by omega)
  have t01 := two _ _ _ _ c0 c1 b0 b1
  have t02 := two _ _ _ _ c0 c2 b0 b2
  have t12 := two _ _ _ _ c1 c2 b1 b2
  have n01 := Int.mul_nonneg c0 c1
  have n02 := Int.mul_nonneg c0 c2
  have n12 := Int.mul_nonneg c1 c2
  have t3 := two _ _ _ _ n01 c2 t01 b2
  have n3 := Int.mul_nonneg n01 c2
  refine ⟨fun j => ?_, fun j l hjl => ?_, by omega⟩
  · by_cases hj : j < 3
    · rcases (show j = 0 ∨ j = 1 ∨ j = 2 by omega) with rfl | rfl | rfl <;> omega
    · rw [zz j (by omega)]; exact Nat.zero_le _
  · rw [← Int.natAbs_mul]
    by_cases hj : j < 3
    · by_cases hl : l < 3
      · rcases (show (j = 0 ∧ l = 1) ∨ (j = 1 ∧ l = 0) ∨ (j = 0 ∧ l = 2) ∨ (j = 2 ∧ l = 0) ∨ (j = 1 ∧ l = 2) ∨ (j = 2 ∧ l = 1) by omega) with ⟨rfl, rfl⟩ | ⟨rfl, rfl⟩ | ⟨rfl, rfl⟩ | ⟨rfl, rfl⟩ | ⟨rfl, rfl⟩ | ⟨rfl, rfl⟩
        · omega
        · rw [Int.mul_comm]; omega
        · omega
        · rw [Int.mul_comm]; omega
        · omega
        · rw [Int.mul_comm]; omega
      · rw [zz l (by omega), Int.mul_zero]; exact Nat.zero_le _
    · rw [zz j (by omega), Int.zero_mul]; exact Nat.zero_le _
/-- small rows: small determinants -/
theorem rb_F {w e : Nat} (hw : w ≤ 3) (he : 1 ≤ e) {Φ : (Nat → Int) → Prop} (h : ∀ u, Φ u → ∀ j, (u j).natAbs ≤ e) : gd_F w Φ (6 * (e * e * e)) := by
  intro Z hZ
  have hb : ∀ a, a < w → ∀ j, (Z a j).natAbs ≤ e := fun a ha j => by
    rcases hZ a ha with c | ⟨i, c⟩
    · exact h _ c j
    · rw [c]; unfold gd_E; split
      · exact he
      · exact Nat.zero_le _
  have e2 : e ≤ e * e := Nat.le_mul_of_pos_right e he
  have e3 : e * e ≤ e * e * e := Nat.le_mul_of_pos_right _ he
  have m2 : ∀ a b c d : Int, a.natAbs ≤ e → b.natAbs ≤ e → c.natAbs ≤ e → d.natAbs ≤ e → (a * b - c * d).natAbs ≤ 2 * (e * e) := fun a b c d ha hb hc hd => by
    have h1 : (a * b).natAbs ≤ e * e := by rw [Int.natAbs_mul]; exact Nat.mul_le_mul ha hb
    have h2 : (c * d).natAbs ≤ e * e := by rw [Int.natAbs_mul]; exact Nat.mul_le_mul hc hd
    omega
  rcases (show w = 0 ∨ w = 1 ∨ w = 2 ∨ w = 3 by omega) with rfl | rfl | rfl | rfl
  · show (1 : Int).natAbs ≤ _; show 1 ≤ _; omega
  · rw [ix_gd1]; have := hb 0 (by omega) 0; omega
  · rw [ix_gd2]
    have := m2 _ _ _ _ (hb 0 (by omega) 0) (hb 1 (by omega) 1) (hb 1 (by omega) 0) (hb 0 (by omega) 1)
    omega
  · rw [ix_gd3]
    have m3 : ∀ x y : Int, x.natAbs ≤ e → y.natAbs ≤ 2 * (e * e) → (x * y).natAbs ≤ 2 * (e * e * e) := fun x y hx hy => by
      rw [Int.natAbs_mul]
      have := Nat.mul_le_mul hx hy
      rw [show e * (2 * (e * e)) = 2 * (e * e * e) by rw [Nat.mul_left_comm, Nat.mul_assoc]] at this
      exact this
    unfold gv3 gv2
    have h1 := m3 _ _ (hb 0 (by omega) 0) (m2 _ _ _ _ (hb 1 (by omega) 1) (hb 2 (by omega) 2) (hb 1 (by omega) 2) (hb 2 (by omega) 1))
    have h2 := m3 _ _ (hb 0 (by omega) 1) (m2 _ _ _ _ (hb 1 (by omega) 0) (hb 2 (by omega) 2) (hb 1 (by omega) 2) (hb 2 (by omega) 0))
    have h3 := m3 _ _ (hb 0 (by omega) 2) (m2 _ _ _ _ (hb 1 (by omega) 0) (hb 2 (by omega) 1) (hb 1 (by omega) 1) (hb 2 (by omega) 0))
    omega
/-- entries of rows that lead, by determinants -/
theorem rb_T {w K : Nat} {T : Nat → Nat → Int} (hw : w ≤ 3) (hT : mt_hn w T) (hK : ∀ s : Nat → Nat, (gd w (fun a => if T a a = 0 then gd_E (s a) else T a)).natAbs ≤ K) : ∀ k j, k < w → j < w → (T k j).natAbs ≤ 2 * K := by
  have hl : ∀ q, q < w → (T q q).natAbs ≤ K := fun q hq => Nat.le_trans (gd_T.lead hT.ec hT.2.1 hq) (hK (fun a => a))
  intro k j hk hj
  rcases Nat.lt_trichotomy k j with hkj | hkj | hkj
  · by_cases hz : T k k = 0
    · rw [hT.2.2.1 k hk hz j]; exact Nat.zero_le _
    by_cases hjz : T j j = 0
    case neg =>
      have := hT.2.2.2.1 k j hkj hj hjz
      have := hl j hj
      omega
    have dv : ∀ (a x : Int), a ≠ 0 → (a * x).natAbs ≤ K → x.natAbs ≤ K := fun a x ha h => by
      rw [Int.natAbs_mul] at h
      have : 1 * x.natAbs ≤ a.natAbs * x.natAbs := Nat.mul_le_mul_right _ (by omega)
      omega
    have E0 : ∀ i c, gd_E i c = if c = i then 1 else 0 := fun _ _ => rfl
    rcases (show w = 2 ∨ w = 3 by omega) with rfl | rfl
    · have e1 : k = 0 := by omega
      have e2 : j = 1 := by omega
      subst e1; subst e2
      have h := hK (fun _ => 0)
      rw [ix_gd2, if_neg hz, if_pos hjz] at h
      simp [E0] at h
      omega
    · rcases (show (k = 0 ∧ j = 1) ∨ (k = 1 ∧ j = 2) ∨ (k = 0 ∧ j = 2) by omega) with ⟨rfl, rfl⟩ | ⟨rfl, rfl⟩ | ⟨rfl, rfl⟩
      · have h := hK (fun a => if a = 1 then 0 else a)
        rw [ix_gd3, if_neg hz, if_pos hjz] at h
        by_cases h2 : T 2 2 = 0
        · rw [if_pos h2] at h
          unfold gv3 gv2 at h
          simp [E0] at h
          omega
        · rw [if_neg h2] at h
          unfold gv3 gv2 at h
          rw [hT.1 2 0 (by omega) (by omega), hT.1 2 1 (by omega) (by omega)] at h
          simp [E0] at h
          have := dv (T 2 2) (T 0 1) h2 (by rw [Int.mul_comm]; simpa using h)
          omega
      · have h := hK (fun a => if a = 2 then 1 else a)
        rw [ix_gd3, if_neg hz, if_pos hjz] at h
        by_cases h2 : T 0 0 = 0
        · rw [if_pos h2] at h
          unfold gv3 gv2 at h
          simp [E0] at h
          omega
        · rw [if_neg h2] at h
          unfold gv3 gv2 at h
          rw [hT.1 1 0 (by omega) (by omega)] at h
          simp [E0] at h
          have := dv (T 0 0) (T 1 2) h2 (by rw [Int.mul_neg, Int.natAbs_neg] at h; exact h)
          omega
      · have h := hK (fun a => if a = 2 then 0 else a)
        rw [ix_gd3, if_neg hz, if_pos hjz] at h
        by_cases h2 : T 1 1 = 0
        · rw [if_pos h2] at h
          unfold gv3 gv2 at h
          simp [E0] at h
          omega
        · rw [if_neg h2] at h
          have h' := hK (fun a => if a = 2 then 1 else a)
          rw [ix_gd3, if_neg hz, if_neg h2, if_pos hjz] at h'
          unfold gv3 gv2 at h h'
          rw [hT.1 1 0 (by omega) (by omega)] at h h'
          simp [E0] at h h'
          have f := dv (T 0 0) (T 1 2) hz (by rw [Int.mul_neg, Int.natAbs_neg] at h'; exact h')
          have r := hT.2.2.2.1 0 1 (by omega) (by omega) h2
          rw [Int.mul_neg, Int.mul_neg] at h
          have g1 : (T 0 1 * T 1 2).natAbs ≤ ((T 1 1).natAbs - 1) * K := by rw [Int.natAbs_mul]; exact Nat.mul_le_mul (by omega) f
          have g2 : ((T 1 1).natAbs - 1) * K + K = (T 1 1).natAbs * K := by
            rw [← Nat.succ_mul]; congr 1; omega
          have g3 : (T 0 2 * T 1 1).natAbs ≤ (T 1 1).natAbs * K := by omega
          rw [Int.natAbs_mul, Nat.mul_comm] at g3
          have g4 := Nat.le_of_mul_le_mul_left g3 (show 0 < (T 1 1).natAbs by omega)
          omega
  · subst hkj; have := hl k hk; omega
  · rw [hT.1 k j hk hkj]; exact Nat.zero_le _
/-- three rows: the minor of all leads, or nothing -/
theorem rb_3 {w : Nat} {B : Nat → Nat → Int} (hw : w ≤ 3) (hB : cg_B w B) (i k p j l m : Nat) : (gv3 (B i) (B k) (B p) j l m).natAbs ≤ (B 0 0 * B 1 1 * B 2 2).natAbs := by
  have lo := hB.low
  have out := hB.out
  have c2 : ∀ l m, (gv2 (B 1) (B 2) l m).natAbs ≤ (B 1 1 * B 2 2).natAbs := fun l m => by
    have z1 : ∀ j, j ≠ 1 → j ≠ 2 → B 1 j = 0 := fun j h1 h2 => by
      by_cases c : j = 0
      · rw [c]; exact lo 1 0 (by omega)
      · exact out 1 j (by omega)
    have z2 : ∀ j, j ≠ 2 → B 2 j = 0 := fun j h2 => by
      by_cases c : j < 2
      · exact lo 2 j c
      · exact out 2 j (by omega)
    by_cases a : l = 1
    · subst a
      by_cases b : m = 2
      · subst b; unfold gv2; rw [z2 1 (by omega), Int.mul_zero, Int.sub_zero]; exact Nat.le_refl _
      · unfold gv2; rw [z2 m b, z2 1 (by omega)]; simp
    by_cases a2 : l = 2
    · subst a2
      by_cases b : m = 1
      · subst b; unfold gv2; rw [z2 1 (by omega), Int.mul_zero, Int.zero_sub, Int.natAbs_neg]; exact Nat.le_refl _
      · by_cases b2 : m = 2
        · subst b2; rw [gv2_zc]; exact Nat.zero_le _
        · unfold gv2; rw [z2 m b2, z1 m b b2]; simp
    · unfold gv2; rw [z2 l a2, z1 l a a2]; simp
  have main : ∀ j l m, (gv3 (B 0) (B 1) (B 2) j l m).natAbs ≤ (B 0 0 * B 1 1 * B 2 2).natAbs := gr_cols (fun l m => by
    have e : gv3 (B 0) (B 1) (B 2) 0 l m = B 0 0 * gv2 (B 1) (B 2) l m := by
      unfold gv3 gv2; rw [lo 1 0 (by omega), lo 2 0 (by omega)]; simp
    rw [e, Int.mul_assoc, Int.natAbs_mul, Int.natAbs_mul (B 0 0)]
    exact Nat.mul_le_mul_left _ (c2 l m)) (fun j hj => ⟨out 0 j (by omega), out 1 j (by omega), out 2 j (by omega)⟩)
  by_cases e1 : i = k
  · subst e1; rw [gv3_z12]; exact Nat.zero_le _
  by_cases e2 : i = p
  · subst e2; rw [gv3_z13]; exact Nat.zero_le _
  by_cases e3 : k = p
  · subst e3; rw [gv3_z23]; exact Nat.zero_le _
  have bz : ∀ i, 3 ≤ i → ∀ j, B i j = 0 := fun i hi j => hB.2 i j (by omega)
  by_cases f1 : 3 ≤ i
  · have : gv3 (B i) (B k) (B p) j l m = 0 := by unfold gv3 gv2; rw [bz i f1, bz i f1, bz i f1]; simp
    rw [this]; exact Nat.zero_le _
  by_cases f2 : 3 ≤ k
  · have : gv3 (B i) (B k) (B p) j l m = 0 := by unfold gv3 gv2; rw [bz k f2, bz k f2, bz k f2]; simp
    rw [this]; exact Nat.zero_le _
  by_cases f3 : 3 ≤ p
  · have : gv3 (B i) (B k) (B p) j l m = 0 := by unfold gv3 gv2; rw [bz p f3, bz p f3, bz p f3]; simp
    rw [this]; exact Nat.zero_le _
  have cs : (i = 0 ∧ k = 1 ∧ p = 2) ∨ (i = 0 ∧ k = 2 ∧ p = 1) ∨ (i = 1 ∧ k = 0 ∧ p = 2) ∨ (i = 1 ∧ k = 2 ∧ p = 0) ∨ (i = 2 ∧ k = 0 ∧ p = 1) ∨ (i = 2 ∧ k = 1 ∧ p = 0) := by
    clear main c2 lo out bz hB hw
    omega
  have M := main j l m
  rcases cs with ⟨rfl, rfl, rfl⟩ | ⟨rfl, rfl, rfl⟩ | ⟨rfl, rfl, rfl⟩ | ⟨rfl, rfl, rfl⟩ | ⟨rfl, rfl, rfl⟩ | ⟨rfl, rfl, rfl⟩
  · exact M
  · rw [gv3_a23, Int.natAbs_neg]; exact M
  · rw [gv3_a12, Int.natAbs_neg]; exact M
  · rw [gv3_a23, Int.natAbs_neg, gv3_a12, Int.natAbs_neg]; exact M
  · rw [gv3_a12, Int.natAbs_neg, gv3_a23, Int.natAbs_neg]; exact M
  · rw [gv3_a23, Int.natAbs_neg, gv3_a12, Int.natAbs_neg, gv3_a23, Int.natAbs_neg]; exact M
/-- what a map reaches -/
theorem rb_R {m n : Nat} {O t H : Nat → Nat → Int} (hm : m ≤ 3) (hB : cg_B m O) (hO : (∀ k, k < m → O k k ≠ 0) ∨ gx_O m 972 O) (hOl : ∀ k, k < m → (O k k).natAbs ≤ 4374) (ht : ∀ i j, (t i j).natAbs ≤ 99) (hH : mt_hn (m + n) H) (s1 : ∀ k, k < m + n → mt_sp (m + n) (gx_X m n O t) (H k)) (s2 : ∀ r, r < m + n → mt_sp (m + n) H (gx_X m n O t r)) (hQ : (gd (m + n) (gd_T H)).natAbs ≤ 26198073) :
    cg_B m (gx_R m H) ∧ (∀ a b, (gx_R m H a b).natAbs ≤ 408146688) ∧ (gx_R m H 0 0 * gx_R m H 1 1 * gx_R m H 2 2).natAbs ≤ 26198073 ∧ (∀ j, (gx_R m H j j).natAbs ≤ 26198073) := by
  have hR := gx_R.hn hH
  have hz : ∀ k j, m ≤ k → gx_R m H k j = 0 := fun k j hk => if_neg (by omega)
  have hBR : cg_B m (gx_R m H) := ⟨hR, hz⟩
  have rr : ∀ k, k < m → gx_R m H k k = H k k := fun k hk => if_pos ⟨hk, hk⟩
  have q1 : gd_q (rb_f H) (m + n) = gd (m + n) (gd_T H) := (gd_T.det hH.ec).symm
  have f1 := rb_f1 (w := m + n) (B := H) hH.2.1
  have q2 : (gd_q (rb_f (gx_R m H)) m).natAbs ≤ 26198073 := by
    have e : ∀ d, d ≤ m → gd_q (rb_f (gx_R m H)) d = gd_q (rb_f H) d := by
      intro d
      induction d with
      | zero => exact fun _ => rfl
      | succ d ih =>
        intro hd
        show gd_q _ d * rb_f (gx_R m H) d = gd_q _ d * rb_f H d
        rw [ih (by omega)]; unfold rb_f; rw [rr d (by omega)]
    rw [e m (Nat.le_refl _)]
    obtain ⟨g1, g2⟩ := rb_q (f := rb_f H) (n := m) n f1
    rw [← q1] at hQ
    omega
  obtain ⟨p1, -, p3⟩ := rb_p hm hBR q2
  refine ⟨hBR, fun a b => ?_, p3, p1⟩
  by_cases ha : a < m
  case neg => rw [hz a b (by omega)]; exact Nat.zero_le _
  by_cases hb : b < m
  case neg => rw [hBR.out a b (by omega)]; exact Nat.zero_le _
  rcases hO with h | h
  · have ne : ∀ k, k < m → gx_R m H k k ≠ 0 := fun k hk => by
      rw [rr k hk]; exact (gz_h hH.ec s2 hB.1.1 hk (h k hk)).1
    have := px_e hBR ne a b
    have := p1 b
    omega
  · obtain ⟨h1, h2, h3, h4, ⟨c, c3, hc⟩, -, -⟩ := id h
    have hx : ∀ r j, ((fun r j => if j < m then gx_X m n O t r j else 0) r j : Int).natAbs ≤ 324 := fun r j => by
      show (if j < m then gx_X m n O t r j else 0 : Int).natAbs ≤ 324
      unfold gx_X
      by_cases cj : j < m
      · rw [if_pos cj]
        by_cases cr : r < m
        · rw [if_pos cr]; have := hc r j cr; omega
        · rw [if_neg cr]
          split
          · have := ht (r - m) j; omega
          · exact Nat.zero_le _
      · rw [if_neg cj]; exact Nat.zero_le _
    have u1 : ∀ k, k < m → mt_sp (m + n) (fun r j => if j < m then gx_X m n O t r j else 0) (gx_R m H k) := fun k hk => by
      obtain ⟨c, hc⟩ := s1 k (by omega)
      refine ⟨c, fun j => ?_⟩
      by_cases cj : j < m
      · rw [show gx_R m H k j = H k j from if_pos ⟨hk, cj⟩, hc j]
        exact mt_s_cg (fun i _ => by show _ = c i * (if j < m then gx_X m n O t i j else 0); rw [if_pos cj])
      · rw [hBR.out k j (by omega)]
        exact (mt_s_0 (fun i _ => by show c i * (if j < m then gx_X m n O t i j else 0) = 0; rw [if_neg cj, Int.mul_zero])).symm
    have u2 : ∀ r, r < m + n → mt_sp m (gx_R m H) ((fun r j => if j < m then gx_X m n O t r j else 0) r) := fun r hr => gz_tr hH.1 (s2 r hr)
    have hF : gd_F m (fun u => ∃ r, r < m + n ∧ u = (fun r j => if j < m then gx_X m n O t r j else 0) r) (6 * (324 * 324 * 324)) := rb_F hm (by omega) (fun u ⟨r, _, e⟩ j => by rw [e]; exact hx r j)
    exact rb_T hm hR (fun s => gd_Ts (s := s) hR.ec u1 u2 hF) a b ha hb
/-- a map's kernel -/
theorem rb_N {m n : Nat} {O t H : Nat → Nat → Int} (hm : m ≤ 3) (hn : n ≤ 3) (hB : cg_B m O) (hO : (∀ k, k < m → O k k ≠ 0) ∨ gx_O m 972 O) (ht : ∀ i j, (t i j).natAbs ≤ 99) (hH : mt_hn (m + n) H) (s1 : ∀ k, k < m + n → mt_sp (m + n) (gx_X m n O t) (H k)) (s2 : ∀ r, r < m + n → mt_sp (m + n) H (gx_X m n O t r)) (hQ : (gd (m + n) (gd_T H)).natAbs ≤ 26198073) :
    cg_B n (gx_N m n H) ∧ (∀ a b j l, (gv2 (gx_N m n H a) (gx_N m n H b) j l).natAbs ≤ 52396146) ∧ (gx_N m n H 0 0 * gx_N m n H 1 1).natAbs ≤ 26198073 ∧ (gx_N m n H 0 0 * gx_N m n H 1 1 * gx_N m n H 2 2).natAbs ≤ 26198073 ∧ (∀ j, (gx_N m n H j j).natAbs ≤ 26198073) := by
  have hN := gx_N.hn hH
  have hz : ∀ k j, n ≤ k → gx_N m n H k j = 0 := fun k j hk => if_neg (by omega)
  have hBN : cg_B n (gx_N m n H) := ⟨hN, hz⟩
  have rr : ∀ k, k < n → gx_N m n H k k = H (m + k) (m + k) := fun k hk => if_pos ⟨hk, hk⟩
  have q1 : gd_q (rb_f H) (m + n) = gd (m + n) (gd_T H) := (gd_T.det hH.ec).symm
  have f1 := rb_f1 (w := m + n) (B := H) hH.2.1
  have q2 : (gd_q (rb_f (gx_N m n H)) n).natAbs ≤ 26198073 := by
    have e : ∀ d, d ≤ n → gd_q (rb_f (gx_N m n H)) d = gd_q (fun a => rb_f H (m + a)) d := by
      intro d
      induction d with
      | zero => exact fun _ => rfl
      | succ d ih =>
        intro hd
        show gd_q _ d * rb_f (gx_N m n H) d = gd_q _ d * rb_f H (m + d)
        rw [ih (by omega)]; unfold rb_f; rw [rr d (by omega)]
    rw [e n (Nat.le_refl _)]
    rw [← q1, rb_qs, Int.natAbs_mul] at hQ
    obtain ⟨g1, -⟩ := rb_q (f := rb_f H) (n := m) 0 (fun k hk => f1 k (by omega))
    have : 1 * (gd_q (fun a => rb_f H (m + a)) n).natAbs ≤ (gd_q (rb_f H) m).natAbs * (gd_q (fun a => rb_f H (m + a)) n).natAbs := Nat.mul_le_mul_right _ (by omega)
    omega
  obtain ⟨p1, p2, p3⟩ := rb_p hn hBN q2
  have p2' : (gx_N m n H 0 0 * gx_N m n H 1 1).natAbs ≤ 26198073 := by rw [Int.natAbs_mul]; exact p2 0 1 (by omega)
  refine ⟨hBN, fun a b j l => ?_, p2', p3, p1⟩
  -- a row without a lead is nothing
  have z0 : ∀ k, gx_N m n H k k = 0 → ∀ j l b, gv2 (gx_N m n H k) b j l = 0 ∧ gv2 b (gx_N m n H k) j l = 0 := fun k hk j l b => by
    unfold gv2; rw [hBN.z k hk, hBN.z k hk]; simp
  by_cases ea : a = b
  · subst ea; rw [gv2_z]; exact Nat.zero_le _
  by_cases ha : gx_N m n H a a = 0
  · rw [(z0 a ha j l _).1]; exact Nat.zero_le _
  by_cases hb : gx_N m n H b b = 0
  · rw [(z0 b hb j l _).2]; exact Nat.zero_le _
  have la : a < n := by
    apply Classical.byContradiction
    intro c; exact ha (hz a a (by omega))
  have lb : b < n := by
    apply Classical.byContradiction
    intro c; exact hb (hz b b (by omega))
  by_cases al : ∀ k, k < n → gx_N m n H k k ≠ 0
  · exact px_2 (P := 26198073) hBN al (fun j l _ _ hjl => p2 j l hjl) a b j l
  · obtain ⟨e, he⟩ := Classical.not_forall.mp al
    have he' : e < n ∧ gx_N m n H e e = 0 := by
      refine ⟨?_, ?_⟩
      · apply Classical.byContradiction
        intro c; exact he (fun h => absurd h c)
      · apply Classical.byContradiction
        intro c; exact he (fun _ => c)
    obtain ⟨le, ze⟩ := he'
    have e1 : a ≠ e := fun h => ha (by rw [h]; exact ze)
    have e2 : b ≠ e := fun h => hb (by rw [h]; exact ze)
    have en : n = 3 := by omega
    subst en
    have ne : ∀ c, c < 3 → c ≠ e → H (m + c) (m + c) ≠ 0 := fun c hc hce => by
      rw [← rr c hc]
      rcases (show c = a ∨ c = b by omega) with h | h
      · rw [h]; exact ha
      · rw [h]; exact hb
    rcases hO with h | h
    · exact absurd (by rw [← rr e le]; exact ze) (gy_full hB.1.1 (fun k j _ hj => hB.out k j hj) h hH.ec s2 (m + e) (by omega))
    · have hK := gy_K (n := 3) h (by omega) ht
      by_cases hj : j < 3
      · by_cases hl : l < 3
        · have := px_kk (K := 19053144) le (fun j hj => px_k hH.ec s1 s2 hK le hj (by rw [← rr e le]; exact ze) ne) la lb e1 e2 hj hl
          omega
        · unfold gv2; rw [hBN.out a l (by omega), hBN.out b l (by omega)]; simp
      · unfold gv2; rw [hBN.out a j (by omega), hBN.out b j (by omega)]; simp

/-! ===== rings of a quotient, by the class ===== -/
def cg_rk (B : Nat → Nat → Int) : Nat → Nat
  | 0 => 0
  | n + 1 => cg_rk B n + (if B n n = 0 then 0 else 1)
theorem cg_rkc {L : ax_L} {b w : Nat} {B : Nat → Nat → Int} (hL : mt_lat L b B) (hw : w ≤ 6) (ho : ∀ k j, mt_ok (B k j)) : ∀ n, n ≤ w → ax_rkc b L n = cg_rk B n := by
  intro n
  induction n with
  | zero => exact fun _ => rfl
  | succ n ih =>
    intro hn
    show ax_rkc b L n + (if L (b + 2 + n) n = 0 then 0 else 1) = cg_rk B n + (if B n n = 0 then 0 else 1)
    rw [ih (by omega), hL n n (by omega) (by omega)]
    by_cases c : B n n = 0
    · rw [if_pos c, if_pos ((mt_eq0 (ho n n)).mpr c)]
    · rw [if_neg c, if_neg (fun z => c ((mt_eq0 (ho n n)).mp z))]
theorem cg_rk_le (B : Nat → Nat → Int) : ∀ n, cg_rk B n ≤ n := by
  intro n
  induction n with
  | zero => exact Nat.le_refl _
  | succ n ih => show cg_rk B n + _ ≤ _; split <;> omega
theorem cg_rk_mono (B : Nat → Nat → Int) {m : Nat} : ∀ n, m ≤ n → cg_rk B m ≤ cg_rk B n := by
  intro n
  induction n with
  | zero => intro h; rw [Nat.le_zero.mp h]; exact Nat.le_refl _
  | succ n ih =>
    intro h
    by_cases e : m = n + 1
    · subst e; exact Nat.le_refl _
    · exact Nat.le_trans (ih (by omega)) (Nat.le_add_right _ _)
theorem cg_rk_s {B : Nat → Nat → Int} {k : Nat} (h : B k k ≠ 0) : cg_rk B (k + 1) = cg_rk B k + 1 := by show _ + _ = _; rw [if_neg h]
theorem cg_rk1 {B : Nat → Nat → Int} {w k : Nat} (hk : k < w) (h : B k k ≠ 0) : 1 ≤ cg_rk B w := by
  have := cg_rk_mono B (m := k + 1) w (by omega)
  rw [cg_rk_s h] at this; omega
theorem cg_rk2 {B : Nat → Nat → Int} {w i k : Nat} (hik : i < k) (hk : k < w) (hi : B i i ≠ 0) (h : B k k ≠ 0) : 2 ≤ cg_rk B w := by
  have a := cg_rk_mono B (m := k + 1) w (by omega)
  rw [cg_rk_s h] at a
  have b := cg_rk1 hik hi
  omega
theorem cg_rk3 {B : Nat → Nat → Int} (h0 : B 0 0 ≠ 0) (h1 : B 1 1 ≠ 0) (h2 : B 2 2 ≠ 0) : cg_rk B 3 = 3 := by
  rw [cg_rk_s h2, cg_rk_s h1, cg_rk_s h0]; rfl
/-- no lead: nothing; one lead: no minors of two; two leads: none of three -/
theorem cg_z1 {w : Nat} {B : Nat → Nat → Int} (h : cg_B w B) (hr : cg_rk B w ≤ 0) (c : Int) : gr_d1 c B := fun k j => by
  have : B k k = 0 := by
    apply Classical.byContradiction
    intro hne
    by_cases hk : k < w
    · have := cg_rk1 hk hne; omega
    · exact hne (h.2 k k (by omega))
  rw [h.z k this j]; exact gv_d0 c
theorem cg_z2 {w : Nat} {B : Nat → Nat → Int} (h : cg_B w B) (hr : cg_rk B w ≤ 1) (c : Int) : gr_d2 c B := fun k e j l => by
  by_cases ek : k = e
  · subst ek; rw [gv2_z]; exact gv_d0 c
  have hz : B k k = 0 ∨ B e e = 0 := by
    apply Classical.byContradiction
    intro hno
    have hk : k < w := by
      apply Classical.byContradiction
      intro hx; exact hno (Or.inl (h.2 k k (by omega)))
    have he : e < w := by
      apply Classical.byContradiction
      intro hx; exact hno (Or.inr (h.2 e e (by omega)))
    rcases Nat.lt_or_ge k e with h1 | h1
    · have := cg_rk2 h1 he (fun z => hno (Or.inl z)) (fun z => hno (Or.inr z)); omega
    · have := cg_rk2 (show e < k by omega) hk (fun z => hno (Or.inr z)) (fun z => hno (Or.inl z)); omega
  unfold gv2
  rcases hz with z | z
  · rw [h.z k z j, h.z k z l]; simp
  · rw [h.z e z j, h.z e z l]; simp
theorem cg_z3 {w : Nat} {B : Nat → Nat → Int} (hw : w ≤ 3) (h : cg_B w B) (hr : cg_rk B w ≤ 2) (c : Int) : gr_d3 c B := by
  have h3 : cg_B 3 B := by
    refine ⟨⟨fun k j _ hj => h.low k j hj, fun k _ => ?_, fun k _ hz j => h.z k hz j, fun k q hkq hq hne => ?_, fun k j _ hj => h.out k j (by omega)⟩, fun k j hk => h.2 k j (by omega)⟩
    · by_cases hk : k < w
      · exact h.1.2.1 k hk
      · rw [h.2 k k (by omega)]; exact Int.le_refl _
    · have hqw : q < w := by
        apply Classical.byContradiction
        intro hx; exact hne (h.2 q q (by omega))
      exact h.1.2.2.2.1 k q hkq hqw hne
  refine (cg_d3 h3 c).mp ?_
  have hz : B 0 0 = 0 ∨ B 1 1 = 0 ∨ B 2 2 = 0 := by
    by_cases e : w = 3
    · subst e
      apply Classical.byContradiction
      intro hno
      have := cg_rk3 (fun z => hno (Or.inl z)) (fun z => hno (Or.inr (Or.inl z))) (fun z => hno (Or.inr (Or.inr z)))
      omega
    · exact Or.inr (Or.inr (h.2 2 2 (by omega)))
  rcases hz with z | z | z
  · rw [z]; simp
  · rw [z]; simp
  · rw [z]; simp
theorem gr_d12 {c : Int} {B : Nat → Nat → Int} (h : gr_d1 c B) : gr_d2 c B := fun i k j l => gv_ds (gv_dm _ (h _ _)) (gv_dm _ (h _ _))
theorem gr_d23 {c : Int} {B : Nat → Nat → Int} (h : gr_d2 c B) : gr_d3 c B := fun i k p j l m => gv_da (gv_ds (gv_dm _ (h _ _ _ _)) (gv_dm _ (h _ _ _ _))) (gv_dm _ (h _ _ _ _))
/-- rings out of divisors of minors -/
theorem cg_is_of {D1 D2 D3 : Nat} {B : Nat → Nat → Int} (h1 : ∀ c : Int, c ∣ (D1 : Int) ↔ gr_d1 c B) (h2 : ∀ c : Int, c ∣ (D2 : Int) ↔ gr_d2 c B) (h3 : ∀ c : Int, c ∣ (D3 : Int) ↔ gr_d3 c B) {n : Nat → Nat} (n0 : n 0 = D1) (n1 : n 1 = if D1 = 0 then 0 else D2 / D1) (n2 : n 2 = if D2 = 0 then 0 else D3 / D2) : gr_is n B := by
  have d12 : D1 ∣ D2 := Int.natCast_dvd_natCast.mp ((h2 D1).mpr (gr_d12 ((h1 D1).mp (Int.dvd_refl _))))
  have d23 : D2 ∣ D3 := Int.natCast_dvd_natCast.mp ((h3 D2).mpr (gr_d23 ((h2 D2).mp (Int.dvd_refl _))))
  have e1 : n 0 * n 1 = D2 := by
    rw [n0, n1]
    by_cases c : D1 = 0
    · rw [if_pos c, Nat.mul_zero]; rw [c] at d12; exact (Nat.eq_zero_of_zero_dvd d12).symm
    · rw [if_neg c]; exact Nat.mul_div_cancel' d12
  have e2 : n 0 * n 1 * n 2 = D3 := by
    rw [e1, n2]
    by_cases c : D2 = 0
    · rw [if_pos c, Nat.mul_zero]; rw [c] at d23; exact (Nat.eq_zero_of_zero_dvd d23).symm
    · rw [if_neg c]; exact Nat.mul_div_cancel' d23
  refine ⟨fun c => by rw [n0]; exact (h1 c).symm, fun c => by rw [e1]; exact (h2 c).symm, fun c => by rw [e2]; exact (h3 c).symm, fun z => ?_, fun z => ?_⟩
  · rw [n1, if_pos (by omega)]
  · rw [n2]
    split
    · rfl
    · rename_i c
      exact absurd (by rw [← e1, z, Nat.mul_zero]) c
theorem cg_dmc {L M : ax_L} {b w : Nat} (h : ∀ k, k < 6 → M (b + 2 + k) = L (b + 2 + k)) (hw : w ≤ 6) (z : Nat) : ax_dm M b w z = ax_dm L b w z := by
  have i1 : ∀ k J, k < w → ∀ n, ax_dmi1 M b k n J = ax_dmi1 L b k n J := fun k J hk n => by
    induction n with
    | zero => rfl
    | succ n ih => show ax_gdc _ _ = ax_gdc _ _; rw [ih, h k (by omega)]
  have i2 : ∀ n, n ≤ w → ∀ J, ax_dm1 M b w n J = ax_dm1 L b w n J := by
    intro n
    induction n with
    | zero => exact fun _ _ => rfl
    | succ n ih => intro hn J; show ax_dmi1 M b n (w - n) (ax_dm1 M b w n J) = ax_dmi1 L b n (w - n) (ax_dm1 L b w n J); rw [ih (by omega), i1 n _ (by omega)]
  have t1 : ∀ k e i J, k < w → e < w → ∀ n, ax_dti M b k e i n J = ax_dti L b k e i n J := fun k e i J hk he n => by
    induction n with
    | zero => rfl
    | succ n ih => show ax_gdc _ _ = ax_gdc _ _; rw [ih, h k (by omega), h e (by omega)]
  have t2 : ∀ k e J, k < w → e < w → ∀ n, ax_dtr M b w k e n J = ax_dtr L b w k e n J := fun k e J hk he n => by
    induction n with
    | zero => rfl
    | succ n ih => show ax_dti M b k e n (w - (n + 1)) (ax_dtr M b w k e n J) = ax_dti L b k e n (w - (n + 1)) (ax_dtr L b w k e n J); rw [ih, t1 k e n _ hk he]
  have j1 : ∀ k J, ∀ n, k + n ≤ w → ax_dmi2 M b w k n J = ax_dmi2 L b w k n J := fun k J n => by
    induction n with
    | zero => exact fun _ => rfl
    | succ n ih => intro hn; show ax_gdc _ _ = ax_gdc _ _; rw [ih (by omega), t2 k (k + n) 0 (by omega) (by omega)]
  have j2 : ∀ n, n ≤ w → ∀ J, ax_dm2 M b w n J = ax_dm2 L b w n J := by
    intro n
    induction n with
    | zero => exact fun _ _ => rfl
    | succ n ih => intro hn J; show ax_dmi2 M b w n (w - n) (ax_dm2 M b w n J) = ax_dmi2 L b w n (w - n) (ax_dm2 L b w n J); rw [ih (by omega), j1 n _ (w - n) (by omega)]
  have x : ∀ n, n ≤ w → ax_ixp b M n = ax_ixp b L n := by
    intro n
    induction n with
    | zero => exact fun _ => rfl
    | succ n ih => intro hn; show ax_ixp b M n * M (b + 2 + n) n = ax_ixp b L n * L (b + 2 + n) n; rw [ih (by omega), h n (by omega)]
  unfold ax_dm
  split
  · exact x w (Nat.le_refl _)
  · exact j2 w (Nat.le_refl _) 0
  · exact i2 w (Nat.le_refl _) 0
theorem cg_ofq {L : ax_L} {x b v : Nat} {D : Nat → Nat} (hx : x < b + 2 ∨ b + 8 ≤ x) (hv : v ≤ 6) (D0 : D 0 = 1) (hl : ∀ n, D n < 9223372036854775808) (h1 : ∀ n, n < v → ax_rkc b L v ≤ n → D (n + 1) = 0) (h2 : ∀ n, n < v → n < ax_rkc b L v → ax_dm L b v (n + 1) = Int64.ofInt (D (n + 1) : Int)) : ∀ n, n ≤ v → (∀ q, q ≠ x → (ax_ofq L x b v n (L, 1)).1 q = L q) ∧ (ax_ofq L x b v n (L, 1)).2 = Int64.ofInt (D n : Int) ∧ ∀ k, k < n → (ax_ofq L x b v n (L, 1)).1 x k = Int64.ofInt ((if D k = 0 then 0 else D (k + 1) / D k : Nat) : Int) := by
  intro n
  induction n with
  | zero => exact fun _ => ⟨fun _ _ => rfl, by rw [D0]; rfl, fun k h => absurd h (Nat.not_lt_zero _)⟩
  | succ n ih =>
    intro hn
    obtain ⟨i1, i2, i3⟩ := ih (by omega)
    have e : ax_ofq L x b v (n + 1) (L, 1) = if (ax_rkc b L v) ≤ n then (if (((ax_ofq L x b v n (L, 1))).2) = 0 then (ax_u (((ax_ofq L x b v n (L, 1))).1) x n 0, 0) else (ax_u (((ax_ofq L x b v n (L, 1))).1) x n (0 / (((ax_ofq L x b v n (L, 1))).2)), 0)) else (if (((ax_ofq L x b v n (L, 1))).2) = 0 then (ax_u (((ax_ofq L x b v n (L, 1))).1) x n 0, ax_dm (((ax_ofq L x b v n (L, 1))).1) b v (n + 1)) else (ax_u (((ax_ofq L x b v n (L, 1))).1) x n ((ax_dm (((ax_ofq L x b v n (L, 1))).1) b v (n + 1)) / (((ax_ofq L x b v n (L, 1))).2)), ax_dm (((ax_ofq L x b v n (L, 1))).1) b v (n + 1))) := rfl
    rw [cg_dmc (M := (ax_ofq L x b v n (L, 1)).1) (L := L) (fun k hk => i1 _ (by omega)) hv, i2] at e
    have z0 : Int64.ofInt (D n : Int) = 0 ↔ D n = 0 := by rw [mt_eq0 (og_okN (hl n))]; omega
    have key : ax_ofq L x b v (n + 1) (L, 1) = (ax_u (ax_ofq L x b v n (L, 1)).1 x n (Int64.ofInt ((if D n = 0 then 0 else D (n + 1) / D n : Nat) : Int)), Int64.ofInt (D (n + 1) : Int)) := by
      rw [e]
      by_cases c : ax_rkc b L v ≤ n
      · rw [if_pos c, h1 n (by omega) c]
        by_cases d : D n = 0
        · rw [if_pos (z0.mpr d), if_pos d]; rfl
        · rw [if_neg (fun y => d (z0.mp y)), if_neg d, Nat.zero_div]
          have : (0 : Int64) / Int64.ofInt (D n : Int) = 0 := by
            have := mt_div mt_ok0 (og_okN (hl n))
            rw [Int.zero_tdiv] at this; exact this
          rw [this]; rfl
      · rw [if_neg c, h2 n (by omega) (by omega)]
        by_cases d : D n = 0
        · rw [if_pos (z0.mpr d), if_pos d]; rfl
        · rw [if_neg (fun y => d (z0.mp y)), if_neg d, mt_div (og_okN (hl _)) (og_okN (hl n)), ← Int.ofNat_tdiv]
    rw [key]
    refine ⟨fun q hq => by show ax_u _ _ _ _ q = _; rw [ax_u_ne hq]; exact i1 q hq, rfl, fun k hk => ?_⟩
    show ax_u _ _ _ _ x k = _
    by_cases ek : k = n
    · subst ek; rw [ax_u_at]
    · rw [ax_u_nj ek]; exact i3 k (by omega)
/-- rings of a quotient: THE rings -/
theorem gr_ofq {L : ax_L} {x b v : Nat} {B : Nat → Nat → Int} (hx : x < b + 2 ∨ b + 8 ≤ x) (hv : v ≤ 3) (hL : mt_lat L b B) (hB : cg_B v B) (ho : ∀ k j, mt_ok (B k j)) (ho2 : ∀ k e j l, mt_ok (gv2 (B k) (B e) j l)) (ho3 : mt_ok (B 0 0 * B 1 1) ∧ mt_ok (B 0 0 * B 1 1 * B 2 2)) :
    ∃ n, gr_is n B ∧ og_at (ax_ofq L x b v v (L, 1)).1 x v n ∧ ∀ q, q ≠ x → (ax_ofq L x b v v (L, 1)).1 q = L q := by
  obtain ⟨D1, a1, a2, a3⟩ := (cg_dm1 hL (by omega) ho v (Nat.le_refl _)).cg (cg_d1 hB)
  obtain ⟨D2, b1, b2, b3⟩ := (cg_dm2 hL (by omega) ho2 v (Nat.le_refl _)).cg (cg_d2 hB)
  have er := cg_rkc hL (by omega) ho v (Nat.le_refl _)
  have rl := cg_rk_le B v
  -- the divisors as the class takes them
  have dz1 : cg_rk B v ≤ 0 → D1 = 0 := fun h => by
    have := (a3 0).mpr (cg_z1 hB h 0)
    have := Int.zero_dvd.mp this; omega
  have dz2 : cg_rk B v ≤ 1 → D2 = 0 := fun h => by
    have := (b3 0).mpr (cg_z2 hB h 0)
    have := Int.zero_dvd.mp this; omega
  obtain ⟨D3, c1, c2, c3⟩ : ∃ D3 : Nat, D3 < 9223372036854775808 ∧ (cg_rk B v ≤ 2 → D3 = 0) ∧ (2 < cg_rk B v → ax_dm L b v 3 = Int64.ofInt (D3 : Int)) ∧ ∀ c : Int, c ∣ (D3 : Int) ↔ gr_d3 c B := by
    by_cases h : cg_rk B v ≤ 2
    · exact ⟨0, by decide, fun _ => rfl, fun z => absurd z (by omega), fun c => ⟨fun _ => cg_z3 hv hB h c, fun _ => gv_d0 c⟩⟩
    · have ev : v = 3 := by omega
      subst ev
      have hp : 0 ≤ B 0 0 * B 1 1 * B 2 2 := Int.mul_nonneg (Int.mul_nonneg (hB.1.2.1 0 (by omega)) (hB.1.2.1 1 (by omega))) (hB.1.2.1 2 (by omega))
      refine ⟨(B 0 0 * B 1 1 * B 2 2).natAbs, ho3.2, fun z => absurd z h, fun _ => ?_, fun c => ?_⟩
      · show ax_ixp b L 2 * L (b + 2 + 2) 2 = _
        have e2 : ax_ixp b L 2 = 1 * L (b + 2 + 0) 0 * L (b + 2 + 1) 1 := rfl
        rw [e2, hL 0 0 (by omega) (by omega), hL 1 1 (by omega) (by omega), hL 2 2 (by omega) (by omega), Int64.one_mul, ← Int64.ofInt_mul, ← Int64.ofInt_mul, Int.natAbs_of_nonneg hp]
      · rw [Int.dvd_natAbs]; exact cg_d3 hB c
  obtain ⟨c3, c4⟩ := c3
  have hD := cg_ofq (L := L) (x := x) (b := b) (v := v) (D := fun n => if n = 0 then 1 else if n = 1 then D1 else if n = 2 then D2 else if n = 3 then D3 else 0) hx (by omega) rfl (fun n => by split <;> (try split) <;> (try split) <;> (try split) <;> omega) (fun n hn hr => by
      rw [er] at hr
      rcases (show n = 0 ∨ n = 1 ∨ n = 2 by omega) with rfl | rfl | rfl
      · exact dz1 hr
      · exact dz2 hr
      · exact c2 hr) (fun n hn hr => by
      rw [er] at hr
      rcases (show n = 0 ∨ n = 1 ∨ n = 2 by omega) with rfl | rfl | rfl
      · exact a2
      · exact b2
      · exact c3 hr) v (Nat.le_refl _)
  obtain ⟨d1, -, d3⟩ := hD
  refine ⟨fun k => if k = 0 then D1 else if k = 1 then (if D1 = 0 then 0 else D2 / D1) else (if D2 = 0 then 0 else D3 / D2), cg_is_of a3 b3 c4 rfl rfl rfl, fun k hk => ?_, d1⟩
  rw [d3 k hk]
  rcases (show k = 0 ∨ k = 1 ∨ k = 2 by omega) with rfl | rfl | rfl
  · show Int64.ofInt (((if 1 = 0 then 0 else D1 / 1 : Nat)) : Int) = Int64.ofInt (D1 : Int)
    rw [if_neg (by omega), Nat.div_one]
  · rfl
  · rfl

/-! ===== what the tests of a diagram tell ===== -/
/-- a row that is reduced to nothing lies in what is nothing -/
theorem gz_red {S : Nat → Int32} {gn gc : Nat → Nat} {g r t : Nat} {L : ax_L} {v : Nat → Int} (hW : rl_Wg S) (hsn : ∀ g, g < 6 → S (14 * g) = nI (gn g) ∧ gn g ≤ 3) (hsc : ∀ g, g < 6 → S (14 * g + 1) = nI (gc g) ∧ gc g ≤ 4) (hg : g < 6) (hr : r ≠ t) (h2 : mt_at L t (mt_N S gn gc g)) (hv : ∀ j, j < 6 → L r j = Int64.ofInt (v j)) (hM : ∀ j, (v j).natAbs ≤ 1000000000000) (h0 : ∀ j, gn g ≤ j → v j = 0) (hz : ∀ j, j < gn g → ax_rs r t 0 (gn g) L r j = 0) : mt_sp (gn g) (mt_N S gn gc g) v := by
  obtain ⟨o0, ⟨o1, o3⟩, o4, o5⟩ := mx_own hW hsn hsc hg
  obtain ⟨ow, ld⟩ := gy_own hW hsn hsc hg
  have hm := (hsn g hg).2
  have ok : ∀ k, k < gn g → mt_ok (mt_N S gn gc g k k) := fun k hk => by have := ld k hk; unfold mt_ok; omega
  have rf := mt_rfq (w := gn g) (f := 0) (ρ := 1000000000000) (B := mt_N S gn gc g) (v := v) o1.2.1 (fun k q _ h1 h2 h3 => o1.2.2.2.1 k q h1 h2 h3) (fun q _ h1 h2 => by
    have h3 := hM q
    have h4 : 1000000000000 * 1 ≤ 1000000000000 * (mt_N S gn gc g q q).natAbs := Nat.mul_le_mul_left _ (by omega)
    omega)
  have e := mt_rsf (r := r) (t := t) (f := 0) (w := gn g) (L := L) (B := mt_N S gn gc g) (v := v) hr h2 (fun k hk => ⟨ok k hk, o1.2.1 k hk⟩) (by omega) (fun k j hk hj => o1.1 k j hk hj) hv (gn g) (by omega) (fun k hk hne => by
    rw [Nat.zero_add] at hne ⊢
    have h1 := rf k (by omega) k (by omega) hk hne
    have h5 : gd_c 1000000000000 k ≤ gd_c 1000000000000 2 := gd_c.up _ (by omega)
    have h6 : gd_c 1000000000000 2 = 3 * 1000000000000 := by decide
    have h7 : (1000000000000 + gd_c 1000000000000 k) * (mt_N S gn gc g k k).natAbs ≤ (4 * 1000000000000) * 4374 := Nat.mul_le_mul (by omega) (ld k hk)
    unfold mt_ok; omega)
  refine gz_1 (fun j => ?_)
  by_cases hj : j < gn g
  · have h1 := hz j hj
    rw [e j (by omega)] at h1
    refine (mt_eq0 ?_).mp h1
    by_cases c : mt_N S gn gc g j j = 0
    · rcases ow with h | h
      · exact absurd c (h j hj)
      · obtain ⟨c1, d1, e1⟩ := h.2.2.2.2.1
        have := gy_s (M := 1000000000000) (c := 324) hm o1 (fun j _ => hM j) (fun k j hk => by have := e1 k j hk; omega) hj c
        unfold mt_ok; omega
    · have := mt_rf.in (v := v) o1.1 o1.2.1 (gn g) (by omega) j (Nat.zero_le _) (by omega) c
      have := ld j hj
      unfold mt_ok; omega
  · exact mt_rf.w (B := mt_N S gn gc g) (f := 0) (w := gn g) (fun k j hk hj => o1.2.2.2.2 k j hk hj) (fun j hj => h0 j hj) (gn g) (by omega) j (by omega)
/-- an image, exactly -/
theorem gz_im {S : Nat → Int32} {F : Nat → Int64} {f : Nat → Int} {k z : Nat} (hz : z < 3) : ∀ x, x ≤ 3 → (∀ i, i < x → F i = Int64.ofInt (f i)) → ax_im S F k z x = Int64.ofInt (gz_i x (mx_t S k) f z) := by
  intro x
  induction x with
  | zero => exact fun _ _ => rfl
  | succ x ih =>
    intro hx h
    show ax_im S F k z x + F x * (S (84 + 11 * k + 2 + 3 * x + z)).toInt64 = Int64.ofInt (mt_s (fun i => f i * mx_t S k i z) x + f x * mx_t S k x z)
    rw [ih (by omega) (fun i hi => h i (by omega)), h x (by omega), Int64.ofInt_add, Int64.ofInt_mul]
    have e : mx_t S k x z = (S (84 + 11 * k + 2 + 3 * x + z)).toInt := if_pos ⟨by omega, hz⟩
    rw [e]
    have e2 : (S (84 + 11 * k + 2 + 3 * x + z)).toInt64 = Int64.ofInt (S (84 + 11 * k + 2 + 3 * x + z)).toInt := by
      apply Int64.toInt_inj.mp
      have := (S (84 + 11 * k + 2 + 3 * x + z)).toInt_lt
      have := (S (84 + 11 * k + 2 + 3 * x + z)).le_toInt
      rw [Int32.toInt_toInt64, mt_ti (by unfold mt_ok; omega)]
    rw [e2]
    rfl
theorem gz_i.b {n M : Nat} {t : Nat → Nat → Int} {f : Nat → Int} (hn : n ≤ 3) (ht : ∀ i j, (t i j).natAbs ≤ 99) (hf : ∀ i, i < n → (f i).natAbs ≤ M) (j : Nat) : (gz_i n t f j).natAbs ≤ 297 * M := by
  have b : ∀ i, i < n → (f i * t i j).natAbs ≤ M * 99 := fun i hi => by
    rw [Int.natAbs_mul]; exact Nat.mul_le_mul (hf i hi) (ht i j)
  unfold gz_i
  rcases (show n = 0 ∨ n = 1 ∨ n = 2 ∨ n = 3 by omega) with e | e | e | e
  · subst e; exact Nat.zero_le _
  · subst e
    have := b 0 (by omega)
    show (0 + f 0 * t 0 j).natAbs ≤ _
    omega
  · subst e
    have := b 0 (by omega)
    have := b 1 (by omega)
    show (0 + f 0 * t 0 j + f 1 * t 1 j).natAbs ≤ _
    omega
  · subst e
    have := b 0 (by omega)
    have := b 1 (by omega)
    have := b 2 (by omega)
    show (0 + f 0 * t 0 j + f 1 * t 1 j + f 2 * t 2 j).natAbs ≤ _
    omega
/-- an image, as a row that ends -/
def gz_j (x y : Nat) (t : Nat → Nat → Int) (f : Nat → Int) : Nat → Int := fun z => if z < y then gz_i x t f z else 0
theorem gz_gw {S : Nat → Int32} {d s k x y : Nat} {L : ax_L} {f : Nat → Int} (hx : x ≤ 3) (hy : y ≤ 3) (h : ∀ i, i < 6 → L s i = Int64.ofInt (f i)) : ∀ z, z < 6 → gw_im S d s k x y L d z = Int64.ofInt (gz_j x y (mx_t S k) f z) := fun z hz => by
  rw [gw_im_at hz hy]
  unfold gz_j
  by_cases c : z < y
  · rw [if_pos c, if_pos c]; exact gz_im (by omega) x hx (fun i hi => h i (by omega))
  · rw [if_neg c, if_neg c]; rfl
set_option maxRecDepth 20000 in
/-- a map that is well -/
theorem gz_well {S : Nat → Int32} {gn gc : Nat → Nat} {k p r : Nat} (hW : rl_Wg S) (hWm : rl_Wm S) (hsn : ∀ g, g < 6 → S (14 * g) = nI (gn g) ∧ gn g ≤ 3) (hsc : ∀ g, g < 6 → S (14 * g + 1) = nI (gc g) ∧ gc g ≤ 4) (hM : ax_Mp S k p r (gn p) (gn r)) : ∀ n j Lr, j + n = gc p → mt_at Lr 648 (mt_N S gn gc r) → (ax_wlf S 639 k p (gn p) (gn r) n j Lr).1 = true → ∀ i, j ≤ i → i < gc p → mt_sp (gn r) (mt_N S gn gc r) (gz_j (gn p) (gn r) (mx_t S k) (mt_rel S p (gn p) i)) := by
  obtain ⟨m1, m2, m3, -⟩ := id hM
  have hx := (hsn p m2).2
  have hv := (hsn r m3).2
  have o9 := (mx_own hW hsn hsc m2).1
  intro n
  induction n with
  | zero => exact fun j Lr hj _ _ i h1 h2 => absurd h2 (by omega)
  | succ n ih =>
    intro j Lr hj hA ht i h1 h2
    have u2 : ax_wlf S 639 k p (gn p) (gn r) (n + 1) j Lr = bif ax_all0 (ax_ws1 S 639 k p (gn p) (gn r) j Lr) 649 0 3 then ax_wlf S 639 k p (gn p) (gn r) n (j + 1) (ax_ws1 S 639 k p (gn p) (gn r) j Lr) else (false, ax_ws1 S 639 k p (gn p) (gn r) j Lr) := rfl
    have w1 : ax_ws1 S 639 k p (gn p) (gn r) j Lr = ax_rs 649 648 0 (gn r) (gw_im S 649 650 k (gn p) (gn r) (ax_st 650 (gn p) (S (14 * p + 2 + 3 * j)).toInt64 (S (14 * p + 2 + 3 * j + 1)).toInt64 (S (14 * p + 2 + 3 * j + 2)).toInt64 Lr)) := rfl
    have row : ∀ i, i < 6 → ax_st 650 (gn p) (S (14 * p + 2 + 3 * j)).toInt64 (S (14 * p + 2 + 3 * j + 1)).toInt64 (S (14 * p + 2 + 3 * j + 2)).toInt64 Lr 650 i = Int64.ofInt (mt_rel S p (gn p) j i) := fun i hi => by
      by_cases c3 : i < 3
      · rw [rl_st c3]
        unfold mt_rel
        by_cases c : i < gn p
        · rw [if_pos c, if_pos c]
          have e2 : (S (14 * p + 2 + 3 * j + i)).toInt64 = Int64.ofInt (S (14 * p + 2 + 3 * j + i)).toInt := by
            apply Int64.toInt_inj.mp
            have := (S (14 * p + 2 + 3 * j + i)).toInt_lt
            have := (S (14 * p + 2 + 3 * j + i)).le_toInt
            rw [Int32.toInt_toInt64, mt_ti (by unfold mt_ok; omega)]
          rw [← e2]
          rcases (show i = 0 ∨ i = 1 ∨ i = 2 by omega) with rfl | rfl | rfl <;> rfl
        · rw [if_neg c, if_neg c]; rfl
      · rw [gw_st6 (by omega) hi]
        unfold mt_rel
        rw [if_neg (by omega)]; rfl
    have fr : ∀ q, q ≠ 649 → q ≠ 650 → gw_im S 649 650 k (gn p) (gn r) (ax_st 650 (gn p) (S (14 * p + 2 + 3 * j)).toInt64 (S (14 * p + 2 + 3 * j + 1)).toInt64 (S (14 * p + 2 + 3 * j + 2)).toInt64 Lr) q = Lr q := fun q q1 q2 => by rw [gw_im_ne q1, rl_st_ne q2]
    have im := gz_gw (d := 649) (S := S) (k := k) (y := gn r) hx hv row
    generalize gw_im S 649 650 k (gn p) (gn r) (ax_st 650 (gn p) (S (14 * p + 2 + 3 * j)).toInt64 (S (14 * p + 2 + 3 * j + 1)).toInt64 (S (14 * p + 2 + 3 * j + 2)).toInt64 Lr) = L1 at *
    have hA1 : mt_at L1 648 (mt_N S gn gc r) := fun k' j' a b => by rw [fr _ (by omega) (by omega)]; exact hA k' j' a b
    have fr2 : ∀ q, q ≠ 649 → q ≠ 650 → ax_ws1 S 639 k p (gn p) (gn r) j Lr q = Lr q := fun q q1 q2 => by rw [w1, mt_rsne (gn r) q q1]; exact fr q q1 q2
    cases hc : ax_all0 (ax_ws1 S 639 k p (gn p) (gn r) j Lr) 649 0 3 with
    | false => rw [hc] at u2; rw [u2] at ht; exact absurd ht (by show ¬ (false = true); decide)
    | true =>
      rw [hc] at u2
      have u3 : ax_wlf S 639 k p (gn p) (gn r) (n + 1) j Lr = ax_wlf S 639 k p (gn p) (gn r) n (j + 1) (ax_ws1 S 639 k p (gn p) (gn r) j Lr) := u2
      rw [u3] at ht
      by_cases e : i = j
      · subst e
        rw [rl_all0] at hc
        refine gz_red (r := 649) (t := 648) (L := L1) hW hsn hsc m3 (by omega) hA1 im (fun z => ?_) (fun z hz => if_neg (by omega)) (fun z hz => by rw [← w1]; exact hc z (by omega))
        unfold gz_j
        split
        · exact Nat.le_trans (gz_i.b (M := 9) hx (mx_t.b hWm hM) (fun q hq => o9 i q (by omega)) z) (by decide)
        · exact Nat.zero_le _
      · exact ih (j + 1) _ (by omega) (fun k' j' a b => by rw [fr2 _ (by omega) (by omega)]; exact hA k' j' a b) ht i (by omega) h2

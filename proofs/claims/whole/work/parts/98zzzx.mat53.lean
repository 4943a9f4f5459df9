/-! ===== kernel and reach, what lies in them; numbers on the way back ===== -/
theorem gz_sh {f : Nat → Int} {m : Nat} (h : ∀ i, i < m → f i = 0) : ∀ n, mt_s f (m + n) = mt_s (fun k => f (m + k)) n := by
  intro n
  induction n with
  | zero => exact mt_s_0 h
  | succ n ih => show mt_s f (m + n) + f (m + n) = _; rw [ih]; rfl
/-- a row under a table -/
def gz_i (n : Nat) (t : Nat → Nat → Int) (y : Nat → Int) : Nat → Int := fun j => mt_s (fun i => y i * t i j) n
theorem gz_X {m n : Nat} {O t : Nat → Nat → Int} {y : Nat → Int} (j : Nat) : mt_s (fun i => y i * gx_X m n O t (m + i) j) n = if j < m then gz_i n t y j else if j < m + n then y (j - m) else 0 := by
  have e : ∀ i, i < n → y i * gx_X m n O t (m + i) j = if j < m then y i * t i j else if j = m + i then y i else 0 := fun i hi => by
    rw [gx_X.t hi]
    by_cases c : j < m
    · rw [if_pos c, if_pos c]
    · rw [if_neg c, if_neg c]
      by_cases d : j = m + i
      · rw [if_pos d, if_pos d, Int.mul_one]
      · rw [if_neg d, if_neg d, Int.mul_zero]
  rw [mt_s_cg e]
  by_cases c : j < m
  · rw [if_pos c]
    exact mt_s_cg (fun i _ => if_pos c)
  · rw [if_neg c]
    by_cases d : j < m + n
    · rw [if_pos d, mt_s_one (q := j - m) (by omega) (fun i _ hne => by rw [if_neg c, if_neg (by omega)]), if_neg c, if_pos (by omega)]
    · rw [if_neg d]
      exact mt_s_0 (fun i hi => by rw [if_neg c, if_neg (by omega)])
/-- the first places of what is spanned -/
theorem gz_tr {m n : Nat} {H : Nat → Nat → Int} {v : Nat → Int} (lo : ∀ k j, k < m + n → j < k → H k j = 0) (hv : mt_sp (m + n) H v) : mt_sp m (gx_R m H) (fun j => if j < m then v j else 0) := by
  obtain ⟨c, hc⟩ := hv
  refine ⟨c, fun j => ?_⟩
  try dsimp only
  by_cases h : j < m
  · rw [if_pos h, hc j]
    have e : mt_s (fun i => c i * H i j) (m + n) = mt_s (fun i => c i * H i j) m := by
      have : ∀ d, d ≤ n → mt_s (fun i => c i * H i j) (m + d) = mt_s (fun i => c i * H i j) m := by
        intro d
        induction d with
        | zero => exact fun _ => rfl
        | succ d ih => intro hd; show mt_s (fun i => c i * H i j) (m + d) + c (m + d) * H (m + d) j = _; rw [ih (by omega), lo (m + d) j (by omega) (by omega), Int.mul_zero, Int.add_zero]
      exact this n (Nat.le_refl _)
    rw [e]
    exact mt_s_cg (fun i hi => by unfold gx_R; rw [if_pos ⟨hi, h⟩])
  · rw [if_neg h]
    exact (mt_s_0 (fun i _ => by unfold gx_R; rw [if_neg (fun y => h y.2), Int.mul_zero])).symm
theorem gz_XH {m n : Nat} {O t H : Nat → Nat → Int} {y : Nat → Int} (s2 : ∀ r, r < m + n → mt_sp (m + n) H (gx_X m n O t r)) : mt_sp (m + n) H (fun j => if j < m then gz_i n t y j else if j < m + n then y (j - m) else 0) :=
  (mt_sp.sum (c := y) (Y := fun i => gx_X m n O t (m + i)) (m := n) (fun i hi => s2 (m + i) (by omega))).cg (fun j => (gz_X j).symm)
/-- an image lies in what is reached -/
theorem gz_R {m n : Nat} {O t H : Nat → Nat → Int} {y : Nat → Int} (lo : ∀ k j, k < m + n → j < k → H k j = 0) (s2 : ∀ r, r < m + n → mt_sp (m + n) H (gx_X m n O t r)) : mt_sp m (gx_R m H) (fun j => if j < m then gz_i n t y j else 0) :=
  (gz_tr lo (gz_XH (y := y) s2)).cg (fun j => by
    try dsimp only
    by_cases c : j < m
    · rw [if_pos c, if_pos c, if_pos c]
    · rw [if_neg c, if_neg c])
/-- own rows lie in what is reached -/
theorem gz_RO {m n k : Nat} {O t H : Nat → Nat → Int} (lo : ∀ k j, k < m + n → j < k → H k j = 0) (hOz : ∀ k j, k < m → m ≤ j → O k j = 0) (s2 : ∀ r, r < m + n → mt_sp (m + n) H (gx_X m n O t r)) (hk : k < m) : mt_sp m (gx_R m H) (O k) := by
  have h := s2 k (by omega)
  rw [gx_X.o hk] at h
  exact (gz_tr lo h).cg (fun j => by
    try dsimp only
    by_cases c : j < m
    · rw [if_pos c]
    · rw [if_neg c]; exact hOz k j hk (by omega))
/-- what an image of is own lies in the kernel -/
theorem gz_N {m n : Nat} {O t H : Nat → Nat → Int} {y : Nat → Int} (hec : mt_ec (m + n) H) (s2 : ∀ r, r < m + n → mt_sp (m + n) H (gx_X m n O t r)) (hy : ∀ i, n ≤ i → y i = 0) (hOz : ∀ k j, k < m → m ≤ j → O k j = 0) (hO : mt_sp m O (fun j => if j < m then gz_i n t y j else 0)) : mt_sp n (gx_N m n H) y := by
  have h1 : mt_sp (m + n) H (fun j => if j < m then gz_i n t y j else 0) := mt_sp.le (fun i hi => by
    have := s2 i (by omega); rw [gx_X.o hi] at this; exact this) hO
  have h2 : mt_sp (m + n) H (fun j => if j < m then 0 else if j < m + n then y (j - m) else 0) := ((gz_XH (y := y) s2).sub 1 h1).cg (fun j => by
    try dsimp only
    by_cases c : j < m
    · rw [if_pos c, if_pos c, if_pos c]; omega
    · rw [if_neg c, if_neg c, if_neg c]; omega)
  obtain ⟨c, hc'⟩ := h2
  have hc : ∀ j, (if j < m then (0 : Int) else if j < m + n then y (j - m) else 0) = mt_s (fun i => c i * H i j) (m + n) := hc'
  have hl := hec.lead (c := c) (q := m) (fun j hj => by
    have := hc j
    rw [if_pos hj] at this; exact this.symm)
  refine ⟨fun k => c (m + k), fun j => ?_⟩
  by_cases h : j < n
  · have := hc (m + j)
    rw [if_neg (by omega), if_pos (by omega), show m + j - m = j by omega, gz_sh (fun i hi => hl i hi (by omega) (m + j))] at this
    rw [this]
    exact mt_s_cg (fun i hi => by unfold gx_N; rw [if_pos ⟨hi, h⟩])
  · rw [hy j (by omega)]
    exact (mt_s_0 (fun i _ => by unfold gx_N; rw [if_neg (fun y => h y.2), Int.mul_zero])).symm
/-- where an own row leads, what is reached leads by no more -/
theorem gz_h {m n q : Nat} {O t H : Nat → Nat → Int} (hec : mt_ec (m + n) H) (s2 : ∀ r, r < m + n → mt_sp (m + n) H (gx_X m n O t r)) (lo : ∀ k j, k < m → j < k → O k j = 0) (hq : q < m) (hne : O q q ≠ 0) : H q q ≠ 0 ∧ (H q q).natAbs ≤ (O q q).natAbs := by
  have h := s2 q (by omega)
  rw [gx_X.o hq] at h
  obtain ⟨c, hc⟩ := h
  have e := hec.at (c := c) (q := q) (by omega) (fun j hj => by rw [← hc j]; exact lo q j hq hj)
  rw [← hc q] at e
  refine ⟨fun z => hne (by rw [e, z, Int.mul_zero]), ?_⟩
  rw [e, Int.natAbs_mul]
  have : 1 * (H q q).natAbs ≤ (c q).natAbs * (H q q).natAbs := Nat.mul_le_mul_right _ (by
    have : c q ≠ 0 := fun z => hne (by rw [e, z, Int.zero_mul])
    omega)
  omega
/-- what lies in the span is reduced to nothing -/
theorem gz_0 {w : Nat} {B : Nat → Nat → Int} {v : Nat → Int} (hB : mt_hn w B) (hv : mt_sp w B v) : ∀ j, mt_rf B 0 w v j = 0 := by
  have h0 : ∀ n, ∀ j, mt_rf B 0 n (fun _ => 0) j = 0 := by
    intro n
    induction n with
    | zero => exact fun _ => rfl
    | succ n ih =>
      intro j
      show (if B (0 + n) (0 + n) = 0 then mt_rf B 0 n (fun _ => 0) j else mt_rf B 0 n (fun _ => 0) j - (mt_rf B 0 n (fun _ => 0) (0 + n) / B (0 + n) (0 + n)) * B (0 + n) j) = 0
      rw [ih j, ih (0 + n)]
      split
      · rfl
      · rw [Int.zero_ediv, Int.zero_mul]; rfl
  exact fun j => (mt_rf_un hB (v' := fun _ => 0) (hv.cg (fun j => Int.sub_zero _)) j).trans (h0 w j)
/-- what is reduced to nothing lies in the span -/
theorem gz_1 {w : Nat} {B : Nat → Nat → Int} {v : Nat → Int} (h : ∀ j, mt_rf B 0 w v j = 0) : mt_sp w B v :=
  ((mt_rf_df (w := w) (f := 0) (B := B) (v := v) w (by omega)).mul (-1)).cg (fun j => by
    try dsimp only
    rw [h j]; omega)
set_option maxRecDepth 20000 in
/-- numbers in the first places, on the way back -/
theorem gz_ok {m n : Nat} {H : Nat → Nat → Int} {s : Nat → Int} {σ η : Nat → Nat} (hm : m ≤ 3) (hH : mt_hn (m + n) H) (hs : ∀ k, k < m → H k k ≠ 0 → (s k).natAbs ≤ σ k ∧ (H k k).natAbs ≤ η k) (c0 : σ 0 < 9223372036854775808) (c1 : σ 1 + σ 0 * η 1 < 9223372036854775808) (c2 : σ 2 + (2 * σ 0 + σ 1) * η 2 < 9223372036854775808) : ∀ k, k < m → H k k ≠ 0 → mt_ok (mt_rf H 0 k (mx_v m s) k) := by
  have sv : ∀ k, k < m → mx_v m s k = s k := fun k hk => if_pos hk
  have pos : ∀ k, k < m → H k k ≠ 0 → 0 < H k k := fun k hk hne => by have := hH.2.1 k (by omega); omega
  have q0 : 0 < m → H 0 0 ≠ 0 → (s 0 / H 0 0).natAbs ≤ σ 0 := fun h z => by
    have := (hs 0 h z).1
    refine mt_dva (pos 0 h z) ?_
    have p := pos 0 h z
    have : σ 0 * 1 ≤ σ 0 * (H 0 0).natAbs := Nat.mul_le_mul_left _ (by omega)
    omega
  have e1 : ∀ j, mt_rf H 0 1 (mx_v m s) j = if H 0 0 = 0 then mx_v m s j else mx_v m s j - (mx_v m s 0 / H 0 0) * H 0 j := fun j => rfl
  have e2 : ∀ j, mt_rf H 0 2 (mx_v m s) j = if H 1 1 = 0 then mt_rf H 0 1 (mx_v m s) j else mt_rf H 0 1 (mx_v m s) j - (mt_rf H 0 1 (mx_v m s) 1 / H 1 1) * H 1 j := fun j => rfl
  have b1 : ∀ j, j < m → 0 < j → H j j ≠ 0 → (mt_rf H 0 1 (mx_v m s) j).natAbs ≤ σ j + σ 0 * (H j j).natAbs := fun j hj hj0 z => by
    rw [e1 j, sv j hj, sv 0 (by omega)]
    have h1 := (hs j hj z).1
    by_cases z0 : H 0 0 = 0
    · rw [if_pos z0]; omega
    · rw [if_neg z0]
      have l := hH.2.2.2.1 0 j hj0 (by omega) z
      have m0 : (s 0 / H 0 0 * H 0 j).natAbs ≤ σ 0 * (H j j).natAbs := by
        rw [Int.natAbs_mul]; exact Nat.mul_le_mul (q0 (by omega) z0) (by omega)
      omega
  intro k hk hne
  rcases (show k = 0 ∨ k = 1 ∨ k = 2 by omega) with e | e | e
  · subst e
    have := (hs 0 hk hne).1
    show mt_ok (mx_v m s 0)
    rw [sv 0 hk]; unfold mt_ok; omega
  · subst e
    have h1 := b1 1 hk (by omega) hne
    have h2 := (hs 1 hk hne).2
    have h3 : σ 0 * (H 1 1).natAbs ≤ σ 0 * η 1 := Nat.mul_le_mul_left _ h2
    unfold mt_ok; omega
  · subst e
    have h1 := b1 2 hk (by omega) hne
    have h2 := (hs 2 hk hne).2
    have h5 : (mt_rf H 0 2 (mx_v m s) 2).natAbs ≤ σ 2 + (2 * σ 0 + σ 1) * (H 2 2).natAbs := by
      rw [e2 2]
      have h6 : (2 * σ 0 + σ 1) * (H 2 2).natAbs = σ 0 * (H 2 2).natAbs + (σ 1 + σ 0) * (H 2 2).natAbs := by rw [← Nat.add_mul]; congr 1; omega
      rw [h6]
      by_cases z1 : H 1 1 = 0
      · rw [if_pos z1]; omega
      · rw [if_neg z1]
        have l := hH.2.2.2.1 1 2 (by omega) (by omega) hne
        have p1 := pos 1 (by omega) z1
        have b := b1 1 (by omega) (by omega) z1
        have q1 : (mt_rf H 0 1 (mx_v m s) 1 / H 1 1).natAbs ≤ σ 1 + σ 0 := mt_dva p1 (by
          have : σ 1 * 1 ≤ σ 1 * (H 1 1).natAbs := Nat.mul_le_mul_left _ (by omega)
          rw [Nat.add_mul]; omega)
        have m1 : (mt_rf H 0 1 (mx_v m s) 1 / H 1 1 * H 1 2).natAbs ≤ (σ 1 + σ 0) * (H 2 2).natAbs := by
          rw [Int.natAbs_mul]; exact Nat.mul_le_mul q1 (by omega)
        omega
    have h3 : (2 * σ 0 + σ 1) * (H 2 2).natAbs ≤ (2 * σ 0 + σ 1) * η 2 := Nat.mul_le_mul_left _ h2
    unfold mt_ok; omega

/-! ===== the grid in memory ===== -/
def gr_at (L : ax_L) (h t wd : Nat) (M : Nat → Nat → Int) : Prop := ∀ i j, i < t → j < wd → L h (3 * i + j) = Int64.ofInt (M i j)
theorem gr_xr {h a b : Nat} {L : ax_L} : ∀ n, n ≤ 3 → (∀ q, q ≠ h → ax_xr h a b n L q = L q) ∧ ∀ r p, p < 3 → ax_xr h a b n L h (3 * r + p) = if p < n then L h (3 * gr_s a b r + p) else L h (3 * r + p) := by
  intro n
  induction n with
  | zero => exact fun _ => ⟨fun _ _ => rfl, fun r p _ => by rw [if_neg (Nat.not_lt_zero _)]; rfl⟩
  | succ n ih =>
    intro hn
    obtain ⟨i1, i2⟩ := ih (by omega)
    have ea : ax_xr h a b n L h (3 * a + n) = L h (3 * a + n) := by rw [i2 a n (by omega), if_neg (Nat.lt_irrefl n)]
    have eb : ax_xr h a b n L h (3 * b + n) = L h (3 * b + n) := by rw [i2 b n (by omega), if_neg (Nat.lt_irrefl n)]
    have e : ax_xr h a b (n + 1) L = ax_u (ax_u (ax_xr h a b n L) h (3 * a + n) (ax_xr h a b n L h (3 * b + n))) h (3 * b + n) (ax_xr h a b n L h (3 * a + n)) := rfl
    rw [ea, eb] at e
    refine ⟨fun q hq => by rw [e, ax_u_ne hq, ax_u_ne hq]; exact i1 q hq, fun r p hp => ?_⟩
    rw [e]
    by_cases hpn : p = n
    · subst hpn
      rw [if_pos (by omega)]
      by_cases hb : r = b
      · subst hb
        rw [ax_u_at]
        by_cases ha : r = a
        · subst ha; rw [show gr_s r r r = r from if_pos rfl]
        · rw [show gr_s a r r = a from by unfold gr_s; rw [if_neg ha, if_pos rfl]]
      · rw [ax_u_nj (by omega)]
        by_cases ha : r = a
        · subst ha; rw [ax_u_at, show gr_s r b r = b from if_pos rfl]
        · rw [ax_u_nj (by omega), i2 r p hp, if_neg (Nat.lt_irrefl p), show gr_s a b r = r from by unfold gr_s; rw [if_neg ha, if_neg hb]]
    · rw [ax_u_nj (by omega), ax_u_nj (by omega), i2 r p hp]
      by_cases hl : p < n
      · rw [if_pos hl, if_pos (by omega)]
      · rw [if_neg hl, if_neg (by omega)]
theorem gr_xc {h a b : Nat} {L : ax_L} (ha3 : a < 3) (hb3 : b < 3) : ∀ n, (∀ q, q ≠ h → ax_xc h a b n L q = L q) ∧ ∀ r p, p < 3 → ax_xc h a b n L h (3 * r + p) = if r < n then L h (3 * r + gr_s a b p) else L h (3 * r + p) := by
  intro n
  induction n with
  | zero => exact ⟨fun _ _ => rfl, fun r p _ => by rw [if_neg (Nat.not_lt_zero _)]; rfl⟩
  | succ n ih =>
    obtain ⟨i1, i2⟩ := ih
    have ea : ax_xc h a b n L h (3 * n + a) = L h (3 * n + a) := by rw [i2 n a ha3, if_neg (Nat.lt_irrefl n)]
    have eb : ax_xc h a b n L h (3 * n + b) = L h (3 * n + b) := by rw [i2 n b hb3, if_neg (Nat.lt_irrefl n)]
    have e : ax_xc h a b (n + 1) L = ax_u (ax_u (ax_xc h a b n L) h (3 * n + a) (ax_xc h a b n L h (3 * n + b))) h (3 * n + b) (ax_xc h a b n L h (3 * n + a)) := rfl
    rw [ea, eb] at e
    refine ⟨fun q hq => by rw [e, ax_u_ne hq, ax_u_ne hq]; exact i1 q hq, fun r p hp => ?_⟩
    rw [e]
    by_cases hrn : r = n
    · subst hrn
      rw [if_pos (by omega)]
      by_cases hb : p = b
      · subst hb
        rw [ax_u_at]
        by_cases ha : p = a
        · subst ha; rw [show gr_s p p p = p from if_pos rfl]
        · rw [show gr_s a p p = a from by unfold gr_s; rw [if_neg ha, if_pos rfl]]
      · rw [ax_u_nj (by omega)]
        by_cases ha : p = a
        · subst ha; rw [ax_u_at, show gr_s p b p = b from if_pos rfl]
        · rw [ax_u_nj (by omega), i2 r p hp, if_neg (Nat.lt_irrefl r), show gr_s a b p = p from by unfold gr_s; rw [if_neg ha, if_neg hb]]
    · rw [ax_u_nj (by omega), ax_u_nj (by omega), i2 r p hp]
      by_cases hl : r < n
      · rw [if_pos hl, if_pos (by omega)]
      · rw [if_neg hl, if_neg (by omega)]
theorem gr_gr {h i j : Nat} {b : Int64} {L : ax_L} (hij : i ≠ j) : ∀ n, n ≤ 3 → (∀ q, q ≠ h → ax_gr h i j b n L q = L q) ∧ ∀ r p, p < 3 → ax_gr h i j b n L h (3 * r + p) = if r = i ∧ p < n then L h (3 * r + p) - b * L h (3 * j + p) else L h (3 * r + p) := by
  intro n
  induction n with
  | zero => exact fun _ => ⟨fun _ _ => rfl, fun r p _ => by rw [if_neg (fun z => Nat.not_lt_zero _ z.2)]; rfl⟩
  | succ n ih =>
    intro hn
    obtain ⟨i1, i2⟩ := ih (by omega)
    have ea : ax_gr h i j b n L h (3 * i + n) = L h (3 * i + n) := by rw [i2 i n (by omega), if_neg (fun z => Nat.lt_irrefl n z.2)]
    have eb : ax_gr h i j b n L h (3 * j + n) = L h (3 * j + n) := by rw [i2 j n (by omega), if_neg (fun z => Nat.lt_irrefl n z.2)]
    have e : ax_gr h i j b (n + 1) L = ax_u (ax_gr h i j b n L) h (3 * i + n) (ax_gr h i j b n L h (3 * i + n) - b * ax_gr h i j b n L h (3 * j + n)) := rfl
    rw [ea, eb] at e
    refine ⟨fun q hq => by rw [e, ax_u_ne hq]; exact i1 q hq, fun r p hp => ?_⟩
    rw [e]
    by_cases hz : r = i ∧ p = n
    · obtain ⟨rfl, rfl⟩ := hz
      rw [ax_u_at, if_pos ⟨rfl, by omega⟩]
    · rw [ax_u_nj (by omega), i2 r p hp]
      by_cases hl : r = i ∧ p < n
      · rw [if_pos hl, if_pos ⟨hl.1, by omega⟩]
      · rw [if_neg hl, if_neg (fun z => by
          rcases Nat.lt_or_ge p n with h1 | h1
          · exact hl ⟨z.1, h1⟩
          · exact hz ⟨z.1, by omega⟩)]
theorem gr_gc {h i j : Nat} {b : Int64} {L : ax_L} (hij : i ≠ j) (hi : i < 3) (hj : j < 3) : ∀ n, (∀ q, q ≠ h → ax_gc h i j b n L q = L q) ∧ ∀ r p, p < 3 → ax_gc h i j b n L h (3 * r + p) = if p = i ∧ r < n then L h (3 * r + p) - b * L h (3 * r + j) else L h (3 * r + p) := by
  intro n
  induction n with
  | zero => exact ⟨fun _ _ => rfl, fun r p _ => by rw [if_neg (fun z => Nat.not_lt_zero _ z.2)]; rfl⟩
  | succ n ih =>
    obtain ⟨i1, i2⟩ := ih
    have ea : ax_gc h i j b n L h (3 * n + i) = L h (3 * n + i) := by rw [i2 n i hi, if_neg (fun z => Nat.lt_irrefl n z.2)]
    have eb : ax_gc h i j b n L h (3 * n + j) = L h (3 * n + j) := by rw [i2 n j hj, if_neg (fun z => Nat.lt_irrefl n z.2)]
    have e : ax_gc h i j b (n + 1) L = ax_u (ax_gc h i j b n L) h (3 * n + i) (ax_gc h i j b n L h (3 * n + i) - b * ax_gc h i j b n L h (3 * n + j)) := rfl
    rw [ea, eb] at e
    refine ⟨fun q hq => by rw [e, ax_u_ne hq]; exact i1 q hq, fun r p hp => ?_⟩
    rw [e]
    by_cases hz : p = i ∧ r = n
    · obtain ⟨rfl, rfl⟩ := hz
      rw [ax_u_at, if_pos ⟨rfl, by omega⟩]
    · rw [ax_u_nj (by omega), i2 r p hp]
      by_cases hl : p = i ∧ r < n
      · rw [if_pos hl, if_pos ⟨hl.1, by omega⟩]
      · rw [if_neg hl, if_neg (fun z => by
          rcases Nat.lt_or_ge r n with h1 | h1
          · exact hl ⟨z.1, h1⟩
          · exact hz ⟨z.1, by omega⟩)]
/-- so often row d is in each row behind it, of n rows; column d in each column -/
def gr_qn (n d : Nat) (M : Nat → Nat → Int) : Nat → Int := fun i => if d < i ∧ i ≤ d + n then (M i d).tdiv (M d d) else 0
def gr_pn (n d : Nat) (M : Nat → Nat → Int) : Nat → Int := fun j => if d < j ∧ j ≤ d + n then (M d j).tdiv (M d d) else 0
theorem gr_cr {h d t wd : Nat} {L : ax_L} {M : Nat → Nat → Int} (hd : d < wd) (hw : wd ≤ 3) (h0 : M d d ≠ 0) (hE : ∀ i, d ≤ i → i < t → mt_ok (M i d)) (hat : gr_at L h t wd M) : ∀ n, d + n < t →
    (∀ q, q ≠ h → (ax_cr h d wd n L).2 q = L q) ∧ gr_at (ax_cr h d wd n L).2 h t wd (gr_ro d (gr_qn n d M) M) ∧ ((ax_cr h d wd n L).1 = true ↔ ∀ i, d < i → i ≤ d + n → (M i d).tmod (M d d) = 0) := by
  intro n
  induction n with
  | zero =>
    intro _
    refine ⟨fun _ _ => rfl, fun i j hi hj => ?_, fun _ i h1 h2 => absurd h1 (by omega), fun _ => rfl⟩
    show L h _ = Int64.ofInt (M i j - gr_qn 0 d M i * M d j)
    rw [show gr_qn 0 d M i = 0 from if_neg (by omega), Int.zero_mul, Int.sub_zero]; exact hat i j hi hj
  | succ n ih =>
    intro hn
    obtain ⟨i1, i2, i3⟩ := ih (by omega)
    have z1 : gr_qn n d M (d + 1 + n) = 0 := if_neg (by omega)
    have z2 : gr_qn n d M d = 0 := if_neg (by omega)
    have e1 : (ax_cr h d wd n L).2 h (3 * (d + 1 + n) + d) = Int64.ofInt (M (d + 1 + n) d) := by
      rw [i2 _ _ (by omega) hd]; show Int64.ofInt (M _ _ - gr_qn n d M (d + 1 + n) * _) = _; rw [z1, Int.zero_mul, Int.sub_zero]
    have e2 : (ax_cr h d wd n L).2 h (4 * d) = Int64.ofInt (M d d) := by
      rw [show 4 * d = 3 * d + d by omega, i2 _ _ (by omega) hd]; show Int64.ofInt (M _ _ - gr_qn n d M d * _) = _; rw [z2, Int.zero_mul, Int.sub_zero]
    have eq : (ax_cr h d wd n L).2 h (3 * (d + 1 + n) + d) / (ax_cr h d wd n L).2 h (4 * d) = Int64.ofInt ((M (d + 1 + n) d).tdiv (M d d)) := by
      rw [e1, e2]; exact mt_div (hE _ (by omega) (by omega)) (hE _ (Nat.le_refl _) (by omega))
    have eL : (ax_cr h d wd (n + 1) L).2 = ax_gr h (d + 1 + n) d ((ax_cr h d wd n L).2 h (3 * (d + 1 + n) + d) / (ax_cr h d wd n L).2 h (4 * d)) wd (ax_cr h d wd n L).2 := rfl
    have eB : (ax_cr h d wd (n + 1) L).1 = ((ax_cr h d wd n L).1 && decide ((ax_cr h d wd (n + 1) L).2 h (3 * (d + 1 + n) + d) = 0)) := rfl
    rw [eq] at eL
    obtain ⟨g1, g2⟩ := gr_gr (h := h) (i := d + 1 + n) (j := d) (b := Int64.ofInt ((M (d + 1 + n) d).tdiv (M d d))) (L := (ax_cr h d wd n L).2) (by omega) wd hw
    have row : gr_at (ax_cr h d wd (n + 1) L).2 h t wd (gr_ro d (gr_qn (n + 1) d M) M) := by
      intro i j hi hj
      rw [eL, g2 i j (by omega)]
      by_cases ei : i = d + 1 + n
      · subst ei
        rw [if_pos ⟨rfl, hj⟩, i2 _ _ hi hj, i2 d j (by omega) hj]
        show Int64.ofInt (M _ _ - gr_qn n d M (d + 1 + n) * _) - _ * Int64.ofInt (M _ _ - gr_qn n d M d * _) = Int64.ofInt (M _ _ - gr_qn (n + 1) d M (d + 1 + n) * _)
        rw [z1, z2, Int.zero_mul, Int.sub_zero, Int.sub_zero, mt_sub, show gr_qn (n + 1) d M (d + 1 + n) = (M (d + 1 + n) d).tdiv (M d d) from if_pos (by omega)]
      · rw [if_neg (fun z => ei z.1), i2 i j hi hj]
        show Int64.ofInt (M _ _ - gr_qn n d M i * _) = Int64.ofInt (M _ _ - gr_qn (n + 1) d M i * _)
        have : gr_qn (n + 1) d M i = gr_qn n d M i := by
          unfold gr_qn
          by_cases c : d < i ∧ i ≤ d + n
          · rw [if_pos c, if_pos (by omega)]
          · rw [if_neg c, if_neg (by omega)]
        rw [this]
    refine ⟨fun q hq => by rw [eL, g1 q hq]; exact i1 q hq, row, ?_⟩
    have ez : (ax_cr h d wd (n + 1) L).2 h (3 * (d + 1 + n) + d) = 0 ↔ (M (d + 1 + n) d).tmod (M d d) = 0 := by
      rw [row _ _ (by omega) hd]
      show Int64.ofInt (M _ _ - gr_qn (n + 1) d M (d + 1 + n) * _) = 0 ↔ _
      rw [show gr_qn (n + 1) d M (d + 1 + n) = (M (d + 1 + n) d).tdiv (M d d) from if_pos (by omega), mt_tm]
      refine mt_eq0 ?_
      have h1 := mt_tml (x := M (d + 1 + n) d) h0
      have h2 := hE d (Nat.le_refl _) (by omega)
      unfold mt_ok at *; omega
    rw [eB, Bool.and_eq_true, decide_eq_true_eq, i3, ez]
    refine ⟨fun hh i h1 h2 => ?_, fun hh => ⟨fun i h1 h2 => hh i h1 (by omega), hh _ (by omega) (by omega)⟩⟩
    by_cases ei : i = d + 1 + n
    · subst ei; exact hh.2
    · exact hh.1 i h1 (by omega)
theorem gr_cc {h d t wd : Nat} {b : Bool} {L : ax_L} {M : Nat → Nat → Int} (hdt : d < t) (hw : wd ≤ 3) (h0 : M d d ≠ 0) (hE : ∀ j, d ≤ j → j < wd → mt_ok (M d j)) (hat : gr_at L h t wd M) : ∀ n, d + n < wd →
    (∀ q, q ≠ h → (ax_cc h d t b n L).2 q = L q) ∧ gr_at (ax_cc h d t b n L).2 h t wd (gr_co d (gr_pn n d M) M) ∧ ((ax_cc h d t b n L).1 = true ↔ b = true ∧ ∀ j, d < j → j ≤ d + n → (M d j).tmod (M d d) = 0) := by
  intro n
  induction n with
  | zero =>
    intro _
    refine ⟨fun _ _ => rfl, fun i j hi hj => ?_, fun hb => ⟨hb, fun j h1 h2 => absurd h1 (by omega)⟩, fun hb => hb.1⟩
    show L h _ = Int64.ofInt (M i j - gr_pn 0 d M j * M i d)
    rw [show gr_pn 0 d M j = 0 from if_neg (by omega), Int.zero_mul, Int.sub_zero]; exact hat i j hi hj
  | succ n ih =>
    intro hn
    obtain ⟨i1, i2, i3⟩ := ih (by omega)
    have z1 : gr_pn n d M (d + 1 + n) = 0 := if_neg (by omega)
    have z2 : gr_pn n d M d = 0 := if_neg (by omega)
    have e1 : (ax_cc h d t b n L).2 h (3 * d + (d + 1 + n)) = Int64.ofInt (M d (d + 1 + n)) := by
      rw [i2 _ _ hdt (by omega)]; show Int64.ofInt (M _ _ - gr_pn n d M (d + 1 + n) * _) = _; rw [z1, Int.zero_mul, Int.sub_zero]
    have e2 : (ax_cc h d t b n L).2 h (4 * d) = Int64.ofInt (M d d) := by
      rw [show 4 * d = 3 * d + d by omega, i2 _ _ hdt (by omega)]; show Int64.ofInt (M _ _ - gr_pn n d M d * _) = _; rw [z2, Int.zero_mul, Int.sub_zero]
    have eq : (ax_cc h d t b n L).2 h (3 * d + (d + 1 + n)) / (ax_cc h d t b n L).2 h (4 * d) = Int64.ofInt ((M d (d + 1 + n)).tdiv (M d d)) := by
      rw [e1, e2]; exact mt_div (hE _ (by omega) (by omega)) (hE _ (Nat.le_refl _) (by omega))
    have eL : (ax_cc h d t b (n + 1) L).2 = ax_gc h (d + 1 + n) d ((ax_cc h d t b n L).2 h (3 * d + (d + 1 + n)) / (ax_cc h d t b n L).2 h (4 * d)) t (ax_cc h d t b n L).2 := rfl
    have eB : (ax_cc h d t b (n + 1) L).1 = ((ax_cc h d t b n L).1 && decide ((ax_cc h d t b (n + 1) L).2 h (3 * d + (d + 1 + n)) = 0)) := rfl
    rw [eq] at eL
    obtain ⟨g1, g2⟩ := gr_gc (h := h) (i := d + 1 + n) (j := d) (b := Int64.ofInt ((M d (d + 1 + n)).tdiv (M d d))) (L := (ax_cc h d t b n L).2) (by omega) (by omega) (by omega) t
    have row : gr_at (ax_cc h d t b (n + 1) L).2 h t wd (gr_co d (gr_pn (n + 1) d M) M) := by
      intro i j hi hj
      rw [eL, g2 i j (by omega)]
      by_cases ei : j = d + 1 + n
      · subst ei
        rw [if_pos ⟨rfl, hi⟩, i2 _ _ hi hj, i2 i d hi (by omega)]
        show Int64.ofInt (M _ _ - gr_pn n d M (d + 1 + n) * _) - _ * Int64.ofInt (M _ _ - gr_pn n d M d * _) = Int64.ofInt (M _ _ - gr_pn (n + 1) d M (d + 1 + n) * _)
        rw [z1, z2, Int.zero_mul, Int.sub_zero, Int.sub_zero, mt_sub, show gr_pn (n + 1) d M (d + 1 + n) = (M d (d + 1 + n)).tdiv (M d d) from if_pos (by omega)]
      · rw [if_neg (fun z => ei z.1), i2 i j hi hj]
        show Int64.ofInt (M _ _ - gr_pn n d M j * _) = Int64.ofInt (M _ _ - gr_pn (n + 1) d M j * _)
        have : gr_pn (n + 1) d M j = gr_pn n d M j := by
          unfold gr_pn
          by_cases c : d < j ∧ j ≤ d + n
          · rw [if_pos c, if_pos (by omega)]
          · rw [if_neg c, if_neg (by omega)]
        rw [this]
    refine ⟨fun q hq => by rw [eL, g1 q hq]; exact i1 q hq, row, ?_⟩
    have ez : (ax_cc h d t b (n + 1) L).2 h (3 * d + (d + 1 + n)) = 0 ↔ (M d (d + 1 + n)).tmod (M d d) = 0 := by
      rw [row _ _ hdt (by omega)]
      show Int64.ofInt (M _ _ - gr_pn (n + 1) d M (d + 1 + n) * _) = 0 ↔ _
      rw [show gr_pn (n + 1) d M (d + 1 + n) = (M d (d + 1 + n)).tdiv (M d d) from if_pos (by omega), mt_tm]
      refine mt_eq0 ?_
      have h1 := mt_tml (x := M d (d + 1 + n)) h0
      have h2 := hE d (Nat.le_refl _) (by omega)
      unfold mt_ok at *; omega
    rw [eB, Bool.and_eq_true, decide_eq_true_eq, i3, ez]
    refine ⟨fun hh => ⟨hh.1.1, fun j h1 h2 => ?_⟩, fun hh => ⟨⟨hh.1, fun j h1 h2 => hh.2 j h1 (by omega)⟩, hh.2 _ (by omega) (by omega)⟩⟩
    by_cases ei : j = d + 1 + n
    · subst ei; exact hh.2
    · exact hh.1.2 j h1 (by omega)
/-- a grid of so many rows and columns, all else 0 -/
def gr_O (t wd : Nat) (M : Nat → Nat → Int) : Prop := ∀ i j, (t ≤ i ∨ wd ≤ j) → M i j = 0
def gr_q (d : Nat) (M : Nat → Nat → Int) : Nat → Int := fun i => if d < i then (M i d).tdiv (M d d) else 0
def gr_p (d : Nat) (M : Nat → Nat → Int) : Nat → Int := fun j => if d < j then (M d j).tdiv (M d d) else 0
/-- one round: row d, column d taken away -/
def gr_cl (d : Nat) (M : Nat → Nat → Int) : Nat → Nat → Int := gr_co d (gr_p d M) (gr_ro d (gr_q d M) M)
def gr_dn (d : Nat) (M : Nat → Nat → Int) : Prop := (∀ i, d < i → (M i d).tmod (M d d) = 0) ∧ ∀ j, d < j → (M d j).tmod (M d d) = 0
theorem gr_cl_D {d : Nat} {M : Nat → Nat → Int} : gr_D M (gr_cl d M) := (gr_D.ro (if_neg (Nat.lt_irrefl d))).trans (gr_D.co (if_neg (Nat.lt_irrefl d)))
theorem gr_ro_row {d : Nat} {M : Nat → Nat → Int} (j : Nat) : gr_ro d (gr_q d M) M d j = M d j := by
  show M d j - gr_q d M d * M d j = _
  rw [show gr_q d M d = 0 from if_neg (Nat.lt_irrefl d), Int.zero_mul, Int.sub_zero]
theorem gr_cls {h d t wd : Nat} {L : ax_L} {M : Nat → Nat → Int} (hd : d < wd) (hdt : d < t) (hw : wd ≤ 3) (hO : gr_O t wd M) (h0 : M d d ≠ 0) (hE : ∀ i j, d ≤ i → d ≤ j → mt_ok (M i j)) (hat : gr_at L h t wd M) :
    (∀ q, q ≠ h → (ax_cls h d t wd L).2 q = L q) ∧ gr_at (ax_cls h d t wd L).2 h t wd (gr_cl d M) ∧ ((ax_cls h d t wd L).1 = true ↔ gr_dn d M) := by
  obtain ⟨a1, a2, a3⟩ := gr_cr (h := h) hd hw h0 (fun i hi _ => hE i d hi (Nat.le_refl _)) hat (t - (d + 1)) (by omega)
  have eq : gr_qn (t - (d + 1)) d M = gr_q d M := by
    funext i
    unfold gr_qn gr_q
    by_cases c : d < i
    · by_cases c2 : i ≤ d + (t - (d + 1))
      · rw [if_pos ⟨c, c2⟩, if_pos c]
      · rw [if_neg (fun z => c2 z.2), if_pos c, hO i d (Or.inl (by omega)), Int.zero_tdiv]
    · rw [if_neg (fun z => c z.1), if_neg c]
  rw [eq] at a2
  have er := fun j => gr_ro_row (d := d) (M := M) j
  obtain ⟨b1, b2, b3⟩ := gr_cc (h := h) (d := d) (b := (ax_cr h d wd (t - (d + 1)) L).1) hdt hw (by rw [er]; exact h0) (fun j hj _ => by rw [er]; exact hE d j (Nat.le_refl _) hj) a2 (wd - (d + 1)) (by omega)
  have ep : gr_pn (wd - (d + 1)) d (gr_ro d (gr_q d M) M) = gr_p d M := by
    funext j
    unfold gr_pn gr_p
    rw [er, er]
    by_cases c : d < j
    · by_cases c2 : j ≤ d + (wd - (d + 1))
      · rw [if_pos ⟨c, c2⟩, if_pos c]
      · rw [if_neg (fun z => c2 z.2), if_pos c, hO d j (Or.inr (by omega)), Int.zero_tdiv]
    · rw [if_neg (fun z => c z.1), if_neg c]
  rw [ep] at b2
  refine ⟨fun q hq => (b1 q hq).trans (a1 q hq), b2, ?_⟩
  show (ax_cc h d t _ _ _).1 = true ↔ _
  rw [b3, a3]
  refine ⟨fun hh => ⟨fun i hi => ?_, fun j hj => ?_⟩, fun hh => ⟨fun i h1 _ => hh.1 i h1, fun j h1 _ => by rw [er, er]; exact hh.2 j h1⟩⟩
  · by_cases c : i ≤ d + (t - (d + 1))
    · exact hh.1 i hi c
    · rw [hO i d (Or.inl (by omega)), Int.zero_tmod]
  · by_cases c : j ≤ d + (wd - (d + 1))
    · have := hh.2 j hj c; rw [er, er] at this; exact this
    · rw [hO d j (Or.inr (by omega)), Int.zero_tmod]
theorem gr_cl_O {d t wd : Nat} {M : Nat → Nat → Int} (hO : gr_O t wd M) : gr_O t wd (gr_cl d M) := by
  intro i j hij
  show (M i j - gr_q d M i * M d j) - gr_p d M j * (M i d - gr_q d M i * M d d) = 0
  rcases hij with h | h
  · have e1 := hO i j (Or.inl h)
    have e2 := hO i d (Or.inl h)
    have e3 : gr_q d M i = 0 := by unfold gr_q; rw [e2, Int.zero_tdiv]; split <;> rfl
    rw [e1, e2, e3]; simp
  · have e1 := hO i j (Or.inr h)
    have e2 := hO d j (Or.inr h)
    have e3 : gr_p d M j = 0 := by unfold gr_p; rw [e2, Int.zero_tdiv]; split <;> rfl
    rw [e1, e2, e3]; simp
/-- the numbers behind a round -/
theorem gr_cl_c {d i : Nat} {M : Nat → Nat → Int} (hi : d < i) : gr_cl d M i d = (M i d).tmod (M d d) := by
  show (M i d - gr_q d M i * M d d) - gr_p d M d * (M i d - gr_q d M i * M d d) = _
  rw [show gr_p d M d = 0 from if_neg (Nat.lt_irrefl d), Int.zero_mul, Int.sub_zero, show gr_q d M i = (M i d).tdiv (M d d) from if_pos hi]; exact mt_tm _ _
theorem gr_cl_r {d j : Nat} {M : Nat → Nat → Int} (hj : d < j) : gr_cl d M d j = (M d j).tmod (M d d) := by
  show (M d j - gr_q d M d * M d j) - gr_p d M j * (M d d - gr_q d M d * M d d) = _
  rw [show gr_q d M d = 0 from if_neg (Nat.lt_irrefl d), Int.zero_mul, Int.sub_zero, Int.zero_mul, Int.sub_zero, show gr_p d M j = (M d j).tdiv (M d d) from if_pos hj]; exact mt_tm _ _
theorem gr_cl_d {d : Nat} {M : Nat → Nat → Int} : gr_cl d M d d = M d d := by
  show (M d d - gr_q d M d * M d d) - gr_p d M d * (M d d - gr_q d M d * M d d) = _
  rw [show gr_q d M d = 0 from if_neg (Nat.lt_irrefl d), show gr_p d M d = 0 from if_neg (Nat.lt_irrefl d)]; simp
/-- rows and columns ahead of d are alone -/
def gr_Z (d : Nat) (M : Nat → Nat → Int) : Prop := ∀ i j, (i < d ∨ j < d) → i ≠ j → M i j = 0
theorem gr_cl_low {d i j : Nat} {M : Nat → Nat → Int} (hZ : gr_Z d M) (h : i < d ∨ j < d) : gr_cl d M i j = M i j := by
  show (M i j - gr_q d M i * M d j) - gr_p d M j * (M i d - gr_q d M i * M d d) = _
  by_cases hi : i < d
  · rw [show gr_q d M i = 0 from if_neg (by omega), hZ i d (Or.inl hi) (by omega)]; simp
  · have hj : j < d := by omega
    rw [hZ d j (Or.inr hj) (by omega), show gr_p d M j = 0 from if_neg (by omega)]; simp
theorem gr_cl_Z {d : Nat} {M : Nat → Nat → Int} (hZ : gr_Z d M) : gr_Z d (gr_cl d M) := fun i j h hne => by rw [gr_cl_low hZ h]; exact hZ i j h hne
theorem gr_cl_Z1 {d : Nat} {M : Nat → Nat → Int} (hZ : gr_Z d M) (ho : gr_dn d M) : gr_Z (d + 1) (gr_cl d M) := fun i j h hne => by
  by_cases h1 : i < d ∨ j < d
  · exact gr_cl_Z hZ i j h1 hne
  · by_cases hi : i = d
    · subst hi; rw [gr_cl_r (by omega)]; exact ho.2 j (by omega)
    · have : j = d := by omega
      subst this; rw [gr_cl_c (by omega)]; exact ho.1 i (by omega)
theorem gr_s_lt {a b d i : Nat} (ha : d ≤ a) (hb : d ≤ b) (hi : i < d) : gr_s a b i = i := by unfold gr_s; rw [if_neg (by omega), if_neg (by omega)]
theorem gr_s_ge {a b d i : Nat} (ha : d ≤ a) (hb : d ≤ b) (hi : d ≤ i) : d ≤ gr_s a b i := by unfold gr_s; split <;> (try split) <;> omega
theorem gr_s_out {a b n i : Nat} (ha : a < n) (hb : b < n) (hi : n ≤ i) : gr_s a b i = i := by unfold gr_s; rw [if_neg (by omega), if_neg (by omega)]
theorem gr_s_in {a b n i : Nat} (ha : a < n) (hb : b < n) (hi : i < n) : gr_s a b i < n := by unfold gr_s; split <;> (try split) <;> omega
theorem gr_sw_Z {d a b : Nat} {M : Nat → Nat → Int} (hZ : gr_Z d M) (ha : d ≤ a) (hb : d ≤ b) : gr_Z d (fun i j => M (gr_s d a i) (gr_s d b j)) := fun i j h hne => by
  dsimp only
  by_cases hi : i < d
  · rw [gr_s_lt (Nat.le_refl _) ha hi]
    refine hZ _ _ (Or.inl hi) (fun z => ?_)
    by_cases hj : j < d
    · rw [gr_s_lt (Nat.le_refl _) hb hj] at z; exact hne z
    · have := gr_s_ge (Nat.le_refl _) hb (show d ≤ j by omega); omega
  · have hj : j < d := by omega
    rw [gr_s_lt (Nat.le_refl _) hb hj]
    refine hZ _ _ (Or.inr hj) (fun z => ?_)
    have := gr_s_ge (Nat.le_refl _) ha (show d ≤ i by omega); omega
theorem gr_sw_O {t wd d a b : Nat} {M : Nat → Nat → Int} (hO : gr_O t wd M) (hd : d < t) (hdw : d < wd) (ha : a < t) (hb : b < wd) : gr_O t wd (fun i j => M (gr_s d a i) (gr_s d b j)) := fun i j h => by
  dsimp only
  refine hO _ _ ?_
  rcases h with h | h
  · exact Or.inl (by rw [gr_s_out hd ha h]; exact h)
  · exact Or.inr (by rw [gr_s_out hdw hb h]; exact h)
/-- the place with the least number -/
theorem gr_gb {H : Nat → Int64} {d t wd : Nat} {M : Nat → Nat → Int} (hw : wd ≤ 3) (hE : ∀ i j, d ≤ i → d ≤ j → mt_ok (M i j)) (hat : ∀ i j, i < t → j < wd → H (3 * i + j) = Int64.ofInt (M i j)) : ∀ n, n ≤ 3 * t →
    (ax_gb H d wd n = none ∧ ∀ k, k < n → d ≤ k / 3 → d ≤ k % 3 → k % 3 < wd → M (k / 3) (k % 3) = 0) ∨ ∃ q, ax_gb H d wd n = some q ∧ q < n ∧ d ≤ q / 3 ∧ d ≤ q % 3 ∧ q % 3 < wd ∧ M (q / 3) (q % 3) ≠ 0 ∧ ∀ k, k < n → d ≤ k / 3 → d ≤ k % 3 → k % 3 < wd → M (k / 3) (k % 3) ≠ 0 → (M (q / 3) (q % 3)).natAbs ≤ (M (k / 3) (k % 3)).natAbs := by
  intro n
  induction n with
  | zero => exact fun _ => Or.inl ⟨rfl, fun k hk => absurd hk (Nat.not_lt_zero _)⟩
  | succ n ih =>
    intro hn
    have eH : n % 3 < wd → H n = Int64.ofInt (M (n / 3) (n % 3)) := fun h => by
      have := hat (n / 3) (n % 3) (by omega) h
      rw [show 3 * (n / 3) + n % 3 = n by omega] at this; exact this
    have e : ax_gb H d wd (n + 1) = ax_gb1 H d wd n (ax_gb H d wd n) := rfl
    rcases ih (by omega) with ⟨h1, h2⟩ | ⟨q, h1, q0, q1, q2, q3, q4, q5⟩
    · have e2 : ax_gb H d wd (n + 1) = if d ≤ n / 3 ∧ d ≤ n % 3 ∧ n % 3 < wd ∧ ¬ H n = 0 then some n else none := by rw [e, h1]; rfl
      by_cases c : d ≤ n / 3 ∧ d ≤ n % 3 ∧ n % 3 < wd ∧ ¬ H n = 0
      · rw [if_pos c] at e2
        obtain ⟨c1, c2, c3, c4⟩ := c
        refine Or.inr ⟨n, e2, by omega, c1, c2, c3, fun z => c4 (by rw [eH c3, z]; rfl), fun k hk k1 k2 k3 k4 => ?_⟩
        by_cases ek : k = n
        · subst ek; exact Nat.le_refl _
        · exact absurd (h2 k (by omega) k1 k2 k3) k4
      · rw [if_neg c] at e2
        refine Or.inl ⟨e2, fun k hk k1 k2 k3 => ?_⟩
        by_cases ek : k = n
        · subst ek
          apply Classical.byContradiction
          intro hne
          exact c ⟨k1, k2, k3, fun z => hne ((mt_eq0 (hE _ _ k1 k2)).mp (by rw [← eH k3]; exact z))⟩
        · exact h2 k (by omega) k1 k2 k3
    · have e2 : ax_gb H d wd (n + 1) = if (d ≤ n / 3 ∧ d ≤ n % 3 ∧ n % 3 < wd ∧ ¬ H n = 0) ∧ ax_abs (H n) < ax_abs (H q) then some n else some q := by rw [e, h1]; rfl
      have eq : H q = Int64.ofInt (M (q / 3) (q % 3)) := by
        have := hat (q / 3) (q % 3) (by omega) q3
        rw [show 3 * (q / 3) + q % 3 = q by omega] at this; exact this
      by_cases c : (d ≤ n / 3 ∧ d ≤ n % 3 ∧ n % 3 < wd ∧ ¬ H n = 0) ∧ ax_abs (H n) < ax_abs (H q)
      · rw [if_pos c] at e2
        obtain ⟨⟨c1, c2, c3, c4⟩, c5⟩ := c
        rw [eH c3, eq, mt_abslt (hE _ _ c1 c2) (hE _ _ q1 q2)] at c5
        refine Or.inr ⟨n, e2, by omega, c1, c2, c3, fun z => c4 (by rw [eH c3, z]; rfl), fun k hk k1 k2 k3 k4 => ?_⟩
        by_cases ek : k = n
        · subst ek; exact Nat.le_refl _
        · have := q5 k (by omega) k1 k2 k3 k4; omega
      · rw [if_neg c] at e2
        refine Or.inr ⟨q, e2, by omega, q1, q2, q3, q4, fun k hk k1 k2 k3 k4 => ?_⟩
        by_cases ek : k = n
        · subst ek
          apply Classical.byContradiction
          intro hlt
          refine c ⟨⟨k1, k2, k3, fun z => k4 ((mt_eq0 (hE _ _ k1 k2)).mp (by rw [← eH k3]; exact z))⟩, ?_⟩
          rw [eH k3, eq, mt_abslt (hE _ _ k1 k2) (hE _ _ q1 q2)]; omega
        · exact q5 k (by omega) k1 k2 k3 k4

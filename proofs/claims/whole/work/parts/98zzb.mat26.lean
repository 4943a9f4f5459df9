/-! ===== rings of a group, by the reference ===== -/
def gr_F : Nat := 36893488147419103233
def gr_M (S : Nat → Int32) (g rc wd : Nat) : Nat → Nat → Int := fun i j => if i < rc then mt_rel S g wd i j else 0
theorem mt_gf1 {S : Nat → Int32} {h g r : Nat} {L : ax_L} : ∀ n, n ≤ 3 → (∀ q, q ≠ h → ax_gf1 S h g r n L q = L q) ∧ ∀ i p, p < 3 → ax_gf1 S h g r n L h (3 * i + p) = if i = r ∧ p < n then (S (14 * g + 2 + 3 * r + p)).toInt64 else L h (3 * i + p) := by
  intro n
  induction n with
  | zero => exact fun _ => ⟨fun _ _ => rfl, fun i p _ => by rw [if_neg (fun z => Nat.not_lt_zero _ z.2)]; rfl⟩
  | succ n ih =>
    intro hn
    obtain ⟨i1, i2⟩ := ih (by omega)
    have e : ax_gf1 S h g r (n + 1) L = ax_u (ax_gf1 S h g r n L) h (3 * r + n) (S (14 * g + 2 + 3 * r + n)).toInt64 := rfl
    refine ⟨fun q hq => by rw [e, ax_u_ne hq]; exact i1 q hq, fun i p hp => ?_⟩
    rw [e]
    by_cases hz : i = r ∧ p = n
    · obtain ⟨rfl, rfl⟩ := hz
      rw [ax_u_at, if_pos ⟨rfl, by omega⟩]
    · rw [ax_u_nj (by omega), i2 i p hp]
      by_cases hl : i = r ∧ p < n
      · rw [if_pos hl, if_pos ⟨hl.1, by omega⟩]
      · rw [if_neg hl, if_neg (fun z => by
          rcases Nat.lt_or_ge p n with h1 | h1
          · exact hl ⟨z.1, h1⟩
          · exact hz ⟨z.1, by omega⟩)]
theorem mt_gf {S : Nat → Int32} {h g wd : Nat} {L : ax_L} (hw : wd ≤ 3) : ∀ n, (∀ q, q ≠ h → ax_gf S h g wd n L q = L q) ∧ ∀ i p, i < n → p < wd → ax_gf S h g wd n L h (3 * i + p) = (S (14 * g + 2 + 3 * i + p)).toInt64 := by
  intro n
  induction n with
  | zero => exact ⟨fun _ _ => rfl, fun i p h => absurd h (Nat.not_lt_zero _)⟩
  | succ n ih =>
    obtain ⟨i1, i2⟩ := ih
    obtain ⟨g1, g2⟩ := mt_gf1 (S := S) (h := h) (g := g) (r := n) (L := ax_gf S h g wd n L) wd hw
    refine ⟨fun q hq => (g1 q hq).trans (i1 q hq), fun i p hi hp => ?_⟩
    show ax_gf1 S h g n wd (ax_gf S h g wd n L) h (3 * i + p) = _
    rw [g2 i p (by omega)]
    by_cases e : i = n
    · subst e; rw [if_pos ⟨rfl, hp⟩]
    · rw [if_neg (fun z => e z.1)]; exact i2 i p (by omega) hp
theorem gr_is.of_D {r : Nat → Nat} {M N : Nat → Nat → Int} (h : gr_is r N) (hD : gr_D M N) : gr_is r M := ⟨fun c => (hD.1 c).trans (h.1 c), fun c => (hD.2.1 c).trans (h.2.1 c), fun c => (hD.2.2 c).trans (h.2.2.1 c), h.2.2.2⟩
/-- a grid comes to rings, over any word on its numbers -/
theorem gr_G1 {Q : Nat → (Nat → Nat → Int) → Prop} {m t wd K : Nat} {M : Nat → Nat → Int} {L : ax_L} (hw : wd ≤ 3) (hQ : gr_Q t wd Q) (q0 : Q 0 M) (hO : gr_O t wd M) (hat : gr_at L (m + 12) t wd M) (K1 : 1 ≤ K) (K2 : K < 9223372036854775808) (k1 : ∀ i j, (M i j).natAbs ≤ K) (k2 : ∀ i k j l, (gv2 (M i) (M k) j l).natAbs ≤ K) (k3 : ∀ i k p j l n, (gv3 (M i) (M k) (M p) j l n).natAbs ≤ K) :
    ∃ Y r, ax_G1 m t wd gr_F L = some Y ∧ (∀ q, q ≠ m + 12 → q ≠ m + 13 → Y q = L q) ∧ og_at Y (m + 13) wd r ∧ gr_is r M ∧ (∀ i j, i < j → j < 3 → r i ∣ r j) ∧ ∃ B, 0 < B ∧ B ≤ K ∧ og_b B 3 r := by
  obtain ⟨L', N, y1, y2, y3, y4, y5, -, y7⟩ := gr_loop (h := m + 12) (r := m + 13) hw (by omega) hQ gr_F 0 9223372036854775808 M (ax_t0 (m + 13) wd L) q0 hO (fun i j h => absurd h (by omega)) (fun i j hi hj => by rw [mt_t0, if_neg (fun z => by have := z.1; omega)]; exact hat i j hi hj) (fun k _ hk => by rw [mt_t0, if_pos ⟨rfl, hk⟩]) (Nat.zero_le _) (by decide) (Nat.le_refl _) (fun ⟨i, j, _, _, hne⟩ => ⟨i, j, Nat.zero_le _, Nat.zero_le _, hne, by have := k1 i j; omega⟩) (by unfold gr_F; omega)
  obtain ⟨f1, f2⟩ := gr_fin (f := fun k => (N k k).natAbs) hw y4 y5 (fun _ => rfl)
  obtain ⟨B, b1, b2, b3⟩ := gr_big hw y4 y5 y3 K1 k1 k2 k3
  have bw : og_b B wd (fun k => (N k k).natAbs) := fun k hk => b3 k (by omega)
  obtain ⟨Y, z1, z2, z3⟩ := og_r3 (q := wd) (L := L') b1 (by omega) bw (fun k hk => (y7 k (Nat.zero_le _) hk).1) wd (Nat.le_refl _)
  refine ⟨Y, _, ?_, fun q h1 h2 => ?_, z3, f1.of_D y3, f2, B, b1, b2, fun k hk => ?_⟩
  · unfold ax_G1; rw [y1]; exact z1
  · rw [z2 q h2, y2 q h1 h2]; funext z; rw [mt_t0, if_neg (fun y => h2 y.1)]
  · by_cases h : k < wd
    · exact og3_b bw wd (Nat.le_refl _) k h
    · rw [og3_o (k := k) (by omega) wd (Nat.le_refl _)]; exact b3 k hk
theorem gr_ref {S : Nat → Int32} {m g wd rc : Nat} (hw : wd ≤ 3) (hr : ∀ r k, r < rc → k < 3 → ax_in3 (S (14 * g + 2 + 3 * r + k)).toInt64 (-9) 9 = true) (L : ax_L) :
    ∃ Y r, ax_R1 m g rc wd gr_F S L = some Y ∧ (∀ q, q ≠ m + 12 → q ≠ m + 13 → Y q = L q) ∧ og_at Y (m + 13) wd r ∧ gr_is r (gr_M S g rc wd) ∧ (∀ i j, i < j → j < 3 → r i ∣ r j) ∧ ∃ B, 0 < B ∧ B ≤ 4374 ∧ og_b B 3 r := by
  obtain ⟨g1, g2⟩ := mt_gf (S := S) (h := m + 12) (g := g) (L := L) hw rc
  have h9 : ∀ i j, (gr_M S g rc wd i j).natAbs ≤ 9 := fun i j => by
    unfold gr_M mt_rel
    split
    · split
      · exact mt_9 (hr i j (by assumption) (by omega))
      · exact Nat.zero_le _
    · exact Nat.zero_le _
  have m2 : ∀ i k j l, (gv2 (gr_M S g rc wd i) (gr_M S g rc wd k) j l).natAbs ≤ 162 := fun i k j l => mt_mm (A := 9) (B := 9) (h9 i j) (h9 k l) (h9 i l) (h9 k j)
  obtain ⟨Y, r, e, a2, a3⟩ := gr_G1 (m := m) (t := rc) (K := 4374) (L := ax_gf S (m + 12) g wd rc L) hw (gr_Q4_ok hw) (gr_Q4_s h9) (fun i j h => by
    unfold gr_M mt_rel
    rcases h with h | h
    · rw [if_neg (by omega)]
    · split
      · rw [if_neg (by omega)]
      · rfl) (fun i j hi hj => by
    rw [g2 i j hi hj]
    unfold gr_M mt_rel
    rw [if_pos hi, if_pos hj]; rfl) (by decide) (by decide) (fun i j => by have := h9 i j; omega) (fun i k j l => by have := m2 i k j l; omega) (fun i k p j l n => by
    unfold gv3
    have p1 : (gr_M S g rc wd i j * gv2 (gr_M S g rc wd k) (gr_M S g rc wd p) l n).natAbs ≤ 9 * 162 := by rw [gr_n3]; exact Nat.mul_le_mul (h9 _ _) (m2 _ _ _ _)
    have p2 : (gr_M S g rc wd i l * gv2 (gr_M S g rc wd k) (gr_M S g rc wd p) j n).natAbs ≤ 9 * 162 := by rw [gr_n3]; exact Nat.mul_le_mul (h9 _ _) (m2 _ _ _ _)
    have p3 : (gr_M S g rc wd i n * gv2 (gr_M S g rc wd k) (gr_M S g rc wd p) j l).natAbs ≤ 9 * 162 := by rw [gr_n3]; exact Nat.mul_le_mul (h9 _ _) (m2 _ _ _ _)
    omega)
  exact ⟨Y, r, e, fun q h1 h2 => (a2 q h1 h2).trans (g1 q h1), a3⟩
/-! ===== rings, by the class: divisors of minors ===== -/
def cg_is (x : Int64) (P : Int → Prop) : Prop := ∃ D : Nat, D < 9223372036854775808 ∧ x = Int64.ofInt (D : Int) ∧ ∀ c : Int, c ∣ (D : Int) ↔ P c
theorem cg_is.cg {x : Int64} {P R : Int → Prop} (h : cg_is x P) (e : ∀ c, P c ↔ R c) : cg_is x R := by
  obtain ⟨D, d1, d2, d3⟩ := h
  exact ⟨D, d1, d2, fun c => (d3 c).trans (e c)⟩
theorem cg_0 : cg_is 0 (fun _ => True) := ⟨0, by decide, rfl, fun c => ⟨fun _ => trivial, fun _ => gv_d0 c⟩⟩
theorem cg_gl {a b : Nat} (ha : a < 9223372036854775808) (hb : b < 9223372036854775808) : Nat.gcd a b < 9223372036854775808 := by
  rcases Nat.eq_zero_or_pos a with z | z
  · rw [z, Nat.gcd_zero_left]; exact hb
  · have := Nat.gcd_le_left b z
    omega
theorem cg_dg (c : Int) (a b : Nat) : c ∣ ((Nat.gcd a b : Nat) : Int) ↔ c ∣ (a : Int) ∧ c ∣ (b : Int) := by
  rw [Int.ofNat_dvd_right, Int.ofNat_dvd_right, Int.ofNat_dvd_right]
  exact ⟨fun h => ⟨Nat.dvd_trans h (Nat.gcd_dvd_left _ _), Nat.dvd_trans h (Nat.gcd_dvd_right _ _)⟩, fun h => Nat.dvd_gcd h.1 h.2⟩
theorem cg_g1 {x : Int64} {P : Int → Prop} {y : Int} (h : cg_is x P) (hy : mt_ok y) : cg_is (ax_gdc x (Int64.ofInt y)) (fun c => P c ∧ c ∣ y) := by
  obtain ⟨D, d1, d2, d3⟩ := h
  refine ⟨Nat.gcd D y.natAbs, cg_gl d1 hy, by rw [d2, mt_gdc (og_okN d1) hy]; rfl, fun c => ?_⟩
  rw [cg_dg, d3, Int.dvd_natAbs]
theorem cg_g2 {x y : Int64} {P R : Int → Prop} (h : cg_is x P) (hy : cg_is y R) : cg_is (ax_gdc x y) (fun c => P c ∧ R c) := by
  obtain ⟨D, d1, d2, d3⟩ := h
  obtain ⟨E, e1, e2, e3⟩ := hy
  refine ⟨Nat.gcd D E, cg_gl d1 e1, by rw [d2, e2, mt_gdc (og_okN d1) (og_okN e1)]; rfl, fun c => ?_⟩
  rw [cg_dg, d3, e3]
theorem cg_dmi1 {L : ax_L} {b k w : Nat} {B : Nat → Nat → Int} {J : Int64} {P : Int → Prop} (hL : mt_lat L b B) (hw : w ≤ 6) (hk : k < w) (ho : ∀ k j, mt_ok (B k j)) (h : cg_is J P) : ∀ n, k + n ≤ w → cg_is (ax_dmi1 L b k n J) (fun c => P c ∧ ∀ j, k ≤ j → j < k + n → c ∣ B k j) := by
  intro n
  induction n with
  | zero => exact fun _ => h.cg (fun c => ⟨fun z => ⟨z, fun j h1 h2 => absurd h2 (by omega)⟩, fun z => z.1⟩)
  | succ n ih =>
    intro hn
    show cg_is (ax_gdc (ax_dmi1 L b k n J) (L (b + 2 + k) (k + n))) _
    rw [hL k (k + n) (by omega) (by omega)]
    refine (cg_g1 (ih (by omega)) (ho k (k + n))).cg (fun c => ⟨fun z => ⟨z.1.1, fun j h1 h2 => ?_⟩, fun z => ⟨⟨z.1, fun j h1 h2 => z.2 j h1 (by omega)⟩, z.2 (k + n) (by omega) (by omega)⟩⟩)
    by_cases e : j = k + n
    · rw [e]; exact z.2
    · exact z.1.2 j h1 (by omega)
theorem cg_dm1 {L : ax_L} {b w : Nat} {B : Nat → Nat → Int} (hL : mt_lat L b B) (hw : w ≤ 6) (ho : ∀ k j, mt_ok (B k j)) : ∀ n, n ≤ w → cg_is (ax_dm1 L b w n 0) (fun c => ∀ k, k < n → ∀ j, k ≤ j → j < w → c ∣ B k j) := by
  intro n
  induction n with
  | zero => exact fun _ => cg_0.cg (fun c => ⟨fun _ k h => absurd h (Nat.not_lt_zero _), fun _ => trivial⟩)
  | succ n ih =>
    intro hn
    refine (cg_dmi1 hL hw (by omega) ho (ih (by omega)) (w - n) (by omega)).cg (fun c => ⟨fun z k hk j h1 h2 => ?_, fun z => ⟨fun k hk => z k (by omega), fun j h1 h2 => z n (by omega) j h1 (by omega)⟩⟩)
    by_cases e : k = n
    · subst e; exact z.2 j h1 (by omega)
    · exact z.1 k (by omega) j h1 h2
theorem cg_dti {L : ax_L} {b k e i w : Nat} {B : Nat → Nat → Int} {J : Int64} {P : Int → Prop} (hL : mt_lat L b B) (hw : w ≤ 6) (hk : k < w) (he : e < w) (ho : ∀ k e j l, mt_ok (gv2 (B k) (B e) j l)) (h : cg_is J P) : ∀ n, i + 1 + n ≤ w → cg_is (ax_dti L b k e i n J) (fun c => P c ∧ ∀ l, i < l → l < i + 1 + n → c ∣ gv2 (B k) (B e) i l) := by
  intro n
  induction n with
  | zero => exact fun _ => h.cg (fun c => ⟨fun z => ⟨z, fun j h1 h2 => absurd h2 (by omega)⟩, fun z => z.1⟩)
  | succ n ih =>
    intro hn
    show cg_is (ax_gdc (ax_dti L b k e i n J) (L (b + 2 + k) i * L (b + 2 + e) (i + 1 + n) - L (b + 2 + k) (i + 1 + n) * L (b + 2 + e) i)) _
    rw [hL k i (by omega) (by omega), hL e _ (by omega) (by omega), hL k _ (by omega) (by omega), hL e i (by omega) (by omega), ← Int64.ofInt_mul, ← Int64.ofInt_mul, ← Int64.ofInt_sub]
    refine (cg_g1 (ih (by omega)) (ho k e i (i + 1 + n))).cg (fun c => ⟨fun z => ⟨z.1.1, fun j h1 h2 => ?_⟩, fun z => ⟨⟨z.1, fun j h1 h2 => z.2 j h1 (by omega)⟩, z.2 (i + 1 + n) (by omega) (by omega)⟩⟩)
    by_cases e : j = i + 1 + n
    · rw [e]; exact z.2
    · exact z.1.2 j h1 (by omega)
theorem cg_dtr {L : ax_L} {b k e w : Nat} {B : Nat → Nat → Int} (hL : mt_lat L b B) (hw : w ≤ 6) (hk : k < w) (he : e < w) (ho : ∀ k e j l, mt_ok (gv2 (B k) (B e) j l)) : ∀ n, n ≤ w → cg_is (ax_dtr L b w k e n 0) (fun c => ∀ i, i < n → ∀ l, i < l → l < w → c ∣ gv2 (B k) (B e) i l) := by
  intro n
  induction n with
  | zero => exact fun _ => cg_0.cg (fun c => ⟨fun _ k h => absurd h (Nat.not_lt_zero _), fun _ => trivial⟩)
  | succ n ih =>
    intro hn
    refine (cg_dti hL hw hk he ho (ih (by omega)) (w - (n + 1)) (by omega)).cg (fun c => ⟨fun z i hi l h1 h2 => ?_, fun z => ⟨fun i hi => z i (by omega), fun l h1 h2 => z n (by omega) l h1 (by omega)⟩⟩)
    by_cases e : i = n
    · subst e; exact z.2 l h1 (by omega)
    · exact z.1 i (by omega) l h1 h2
theorem cg_dmi2 {L : ax_L} {b k w : Nat} {B : Nat → Nat → Int} {J : Int64} {P : Int → Prop} (hL : mt_lat L b B) (hw : w ≤ 6) (hk : k < w) (ho : ∀ k e j l, mt_ok (gv2 (B k) (B e) j l)) (h : cg_is J P) : ∀ n, k + n ≤ w → cg_is (ax_dmi2 L b w k n J) (fun c => P c ∧ ∀ e, k ≤ e → e < k + n → ∀ i, i < w → ∀ l, i < l → l < w → c ∣ gv2 (B k) (B e) i l) := by
  intro n
  induction n with
  | zero => exact fun _ => h.cg (fun c => ⟨fun z => ⟨z, fun j h1 h2 => absurd h2 (by omega)⟩, fun z => z.1⟩)
  | succ n ih =>
    intro hn
    show cg_is (ax_gdc (ax_dmi2 L b w k n J) (ax_dtr L b w k (k + n) w 0)) _
    refine (cg_g2 (ih (by omega)) (cg_dtr hL hw hk (by omega) ho w (Nat.le_refl _))).cg (fun c => ⟨fun z => ⟨z.1.1, fun j h1 h2 => ?_⟩, fun z => ⟨⟨z.1, fun j h1 h2 => z.2 j h1 (by omega)⟩, z.2 (k + n) (by omega) (by omega)⟩⟩)
    by_cases e : j = k + n
    · rw [e]; exact z.2
    · exact z.1.2 j h1 (by omega)
theorem cg_dm2 {L : ax_L} {b w : Nat} {B : Nat → Nat → Int} (hL : mt_lat L b B) (hw : w ≤ 6) (ho : ∀ k e j l, mt_ok (gv2 (B k) (B e) j l)) : ∀ n, n ≤ w → cg_is (ax_dm2 L b w n 0) (fun c => ∀ k, k < n → ∀ e, k ≤ e → e < w → ∀ i, i < w → ∀ l, i < l → l < w → c ∣ gv2 (B k) (B e) i l) := by
  intro n
  induction n with
  | zero => exact fun _ => cg_0.cg (fun c => ⟨fun _ k h => absurd h (Nat.not_lt_zero _), fun _ => trivial⟩)
  | succ n ih =>
    intro hn
    refine (cg_dmi2 hL hw (by omega) ho (ih (by omega)) (w - n) (by omega)).cg (fun c => ⟨fun z k hk j h1 h2 => ?_, fun z => ⟨fun k hk => z k (by omega), fun j h1 h2 => z n (by omega) j h1 (by omega)⟩⟩)
    by_cases e : k = n
    · subst e; exact z.2 j h1 (by omega)
    · exact z.1 k (by omega) j h1 h2
/-- rows that lead, and nothing else -/
def cg_B (w : Nat) (B : Nat → Nat → Int) : Prop := mt_hn w B ∧ ∀ k j, w ≤ k → B k j = 0
theorem cg_B.low {w : Nat} {B : Nat → Nat → Int} (h : cg_B w B) (k j : Nat) (hj : j < k) : B k j = 0 := by
  by_cases c : k < w
  · exact h.1.1 k j c hj
  · exact h.2 k j (by omega)
theorem cg_B.out {w : Nat} {B : Nat → Nat → Int} (h : cg_B w B) (k j : Nat) (hj : w ≤ j) : B k j = 0 := by
  by_cases c : k < w
  · exact h.1.2.2.2.2 k j c hj
  · exact h.2 k j (by omega)
theorem cg_B.z {w : Nat} {B : Nat → Nat → Int} (h : cg_B w B) (k : Nat) (hk : B k k = 0) (j : Nat) : B k j = 0 := by
  by_cases c : k < w
  · exact h.1.2.2.1 k c hk j
  · exact h.2 k j (by omega)
theorem cg_d1 {w : Nat} {B : Nat → Nat → Int} (h : cg_B w B) (c : Int) : (∀ k, k < w → ∀ j, k ≤ j → j < w → c ∣ B k j) ↔ gr_d1 c B := by
  refine ⟨fun z k j => ?_, fun z k _ j _ _ => z k j⟩
  by_cases c1 : k < w
  · by_cases c2 : j < k
    · rw [h.low k j c2]; exact gv_d0 c
    · by_cases c3 : j < w
      · exact z k c1 j (by omega) c3
      · rw [h.out k j (by omega)]; exact gv_d0 c
  · rw [h.2 k j (by omega)]; exact gv_d0 c
theorem cg_d2 {w : Nat} {B : Nat → Nat → Int} (h : cg_B w B) (c : Int) : (∀ k, k < w → ∀ e, k ≤ e → e < w → ∀ i, i < w → ∀ l, i < l → l < w → c ∣ gv2 (B k) (B e) i l) ↔ gr_d2 c B := by
  refine ⟨fun z => ?_, fun z k _ e _ _ i _ l _ _ => z k e i l⟩
  have a1 : ∀ k e i l, k ≤ e → i < l → c ∣ gv2 (B k) (B e) i l := fun k e i l h1 h2 => by
    by_cases c1 : e < w
    · by_cases c2 : l < w
      · exact z k (by omega) e h1 c1 i (by omega) l h2 c2
      · unfold gv2; rw [h.out k l (by omega), h.out e l (by omega)]; simp
    · unfold gv2; rw [h.2 e l (by omega), h.2 e i (by omega)]; simp
  have a2 : ∀ k e i l, k ≤ e → c ∣ gv2 (B k) (B e) i l := fun k e i l h1 => by
    rcases Nat.lt_trichotomy i l with h2 | h2 | h2
    · exact a1 k e i l h1 h2
    · subst h2; rw [gv2_zc]; exact gv_d0 c
    · rw [gv2_ac]; exact gv_dn (a1 k e l i h1 h2)
  intro k e i l
  rcases Nat.le_total k e with h1 | h1
  · exact a2 k e i l h1
  · rw [gv2_an]; exact gv_dn (a2 e k i l h1)
theorem cg_d3 {B : Nat → Nat → Int} (h : cg_B 3 B) (c : Int) : c ∣ B 0 0 * B 1 1 * B 2 2 ↔ gr_d3 c B := by
  have e0 : gv3 (B 0) (B 1) (B 2) 0 1 2 = B 0 0 * B 1 1 * B 2 2 := by
    unfold gv3 gv2; rw [h.low 1 0 (by omega), h.low 2 0 (by omega), h.low 2 1 (by omega)]; simp [Int.mul_assoc]
  refine ⟨fun z => ?_, fun z => by rw [← e0]; exact z 0 1 2 0 1 2⟩
  rw [← e0] at z
  -- columns in any order, rows in any order
  have rows : ∀ j l m, c ∣ gv3 (B 0) (B 1) (B 2) j l m → ∀ i k p, c ∣ gv3 (B i) (B k) (B p) j l m := by
    intro j l m y i k p
    have zr : ∀ x v w, 3 ≤ x → gv3 (B x) v w j l m = 0 := fun x v w hx => by rw [gv3_lin1, h.2 x j hx, h.2 x l hx, h.2 x m hx]; simp
    by_cases a1 : 3 ≤ i
    · rw [zr i _ _ a1]; exact gv_d0 c
    by_cases a2 : 3 ≤ k
    · rw [gv3_a12, zr k _ _ a2]; exact gv_d0 c
    by_cases a3 : 3 ≤ p
    · rw [gv3_a23, gv3_a12, zr p _ _ a3]; exact gv_d0 c
    by_cases e1 : i = k
    · subst e1; rw [gv3_z12]; exact gv_d0 c
    by_cases e2 : k = p
    · subst e2; rw [gv3_z23]; exact gv_d0 c
    by_cases e3 : i = p
    · subst e3; rw [gv3_z13]; exact gv_d0 c
    rcases (show (i = 0 ∧ k = 1 ∧ p = 2) ∨ (i = 0 ∧ k = 2 ∧ p = 1) ∨ (i = 1 ∧ k = 0 ∧ p = 2) ∨ (i = 1 ∧ k = 2 ∧ p = 0) ∨ (i = 2 ∧ k = 0 ∧ p = 1) ∨ (i = 2 ∧ k = 1 ∧ p = 0) by omega) with ⟨rfl, rfl, rfl⟩ | ⟨rfl, rfl, rfl⟩ | ⟨rfl, rfl, rfl⟩ | ⟨rfl, rfl, rfl⟩ | ⟨rfl, rfl, rfl⟩ | ⟨rfl, rfl, rfl⟩
    · exact y
    · rw [gv3_a23]; exact gv_dn y
    · rw [gv3_a12]; exact gv_dn y
    · rw [gv3_a23, gv3_a12]; exact gv_dn (gv_dn y)
    · rw [gv3_a12, gv3_a23]; exact gv_dn (gv_dn y)
    · rw [gv3_a12, gv3_a23, gv3_a12]; exact gv_dn (gv_dn (gv_dn y))
  intro i k p j l m
  refine rows j l m ?_ i k p
  have zc : ∀ a b d, 3 ≤ a → gv3 (B 0) (B 1) (B 2) a b d = 0 := fun a b d ha => by unfold gv3 gv2; rw [h.out 0 a ha, h.out 1 a ha, h.out 2 a ha]; simp
  by_cases a1 : 3 ≤ j
  · rw [zc j _ _ a1]; exact gv_d0 c
  by_cases a2 : 3 ≤ l
  · rw [gv3_c12, zc l _ _ a2]; exact gv_d0 c
  by_cases a3 : 3 ≤ m
  · rw [gv3_c23, gv3_c12, zc m _ _ a3]; exact gv_d0 c
  by_cases e1 : j = l
  · subst e1; rw [gv3_zc]; exact gv_d0 c
  by_cases e2 : l = m
  · subst e2; rw [gv3_zc2]; exact gv_d0 c
  by_cases e3 : j = m
  · subst e3; rw [gv3_zc3]; exact gv_d0 c
  rcases (show (j = 0 ∧ l = 1 ∧ m = 2) ∨ (j = 0 ∧ l = 2 ∧ m = 1) ∨ (j = 1 ∧ l = 0 ∧ m = 2) ∨ (j = 1 ∧ l = 2 ∧ m = 0) ∨ (j = 2 ∧ l = 0 ∧ m = 1) ∨ (j = 2 ∧ l = 1 ∧ m = 0) by omega) with ⟨rfl, rfl, rfl⟩ | ⟨rfl, rfl, rfl⟩ | ⟨rfl, rfl, rfl⟩ | ⟨rfl, rfl, rfl⟩ | ⟨rfl, rfl, rfl⟩ | ⟨rfl, rfl, rfl⟩
  · exact z
  · rw [gv3_c23]; exact gv_dn z
  · rw [gv3_c12]; exact gv_dn z
  · rw [gv3_c23, gv3_c12]; exact gv_dn (gv_dn z)
  · rw [gv3_c12, gv3_c23]; exact gv_dn (gv_dn z)
  · rw [gv3_c12, gv3_c23, gv3_c12]; exact gv_dn (gv_dn (gv_dn z))

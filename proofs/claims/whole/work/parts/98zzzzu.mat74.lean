/-! ===== the rings of one Lattice inside another, by the reference; by both ===== -/
theorem cj_rk {H : Nat → Int64} {w : Nat} {B : Nat → Nat → Int} (hH : ∀ k, k < w → H (7 * k) = Int64.ofInt (B k k)) (ho : ∀ k, k < w → mt_ok (B k k)) : ∀ n, n ≤ w → ax_rk H n = cg_rk B n := by
  intro n
  induction n with
  | zero => exact fun _ => rfl
  | succ n ih =>
    intro hn
    show ax_rk H n + (if H (7 * n) = 0 then 0 else 1) = cg_rk B n + (if B n n = 0 then 0 else 1)
    rw [ih (by omega), hH n (by omega)]
    by_cases z : B n n = 0
    · rw [if_pos z, if_pos ((mt_eq0 (ho n (by omega))).mpr z)]
    · rw [if_neg z, if_neg (fun h => z ((mt_eq0 (ho n (by omega))).mp h))]
/-- the grid -/
def cj_M (B O : Nat → Nat → Int) (n : Nat) : Nat → Nat → Int := fun i j => if i < n then co B n (O i) j else 0
theorem cj_ref {a b n : Nat} {L : ax_L} {B O : Nat → Nat → Int} (ha : a ≠ 650 ∧ a ≠ 651) (hb : b ≠ 650 ∧ b ≠ 651) (hn : n ≤ 3) (hBB : cg_B n B) (hsp : ∀ r, r < n → mt_sp n B (O r)) (hV : ∀ r j, r < n → j < n → (O r j).natAbs ≤ 4374) (hBl : ∀ j, (B j j).natAbs ≤ 26198073) (hL : ∀ k j, k < n → j < 6 → L a (6 * k + j) = Int64.ofInt (B k j)) (hL2 : ∀ k j, k < n → j < 6 → L b (6 * k + j) = Int64.ofInt (O k j)) :
    ∃ Y s, ax_B1 639 a b n gr_F L = some Y ∧ (∀ q, q ≠ 650 → q ≠ 651 → q ≠ 652 → Y q = L q) ∧ og_at Y 652 (cg_rk B n) s ∧ gr_is s (cj_M B O n) ∧ (∀ i j, i < j → j < 3 → s i ∣ s j) ∧ (∀ i, i < 3 → s i < 9223372036854775808) ∧ ax_rk (L a) n = cg_rk B n := by
  have hrk := cj_rk (H := L a) (w := n) (B := B) (fun k hk => by rw [show 7 * k = 6 * k + k by omega]; exact hL k k hk (by omega)) (fun k _ => by have := hBl k; unfold mt_ok; omega) n (Nat.le_refl _)
  have hr3 : cg_rk B n ≤ 3 := by have := cg_rk_le B n; omega
  have xb := cj_b hn hBB hsp hV
  obtain ⟨c1, c2⟩ := co_bo (m := 639) (a := a) (b := b) (w := n) (L := L) ha hb hn hBB.1 hsp hL hL2 (fun r hr p hp _ => by
    have h1 := co_c.b hn hBB.1 (hsp r hr) (fun j hj => hV r j hr hj) p hp
    have h2 := hBl p
    have h3 : (co_c B (O r) p * B p p).natAbs ≤ 17496 * 26198073 := by rw [Int.natAbs_mul]; exact Nat.mul_le_mul h1 h2
    unfold mt_ok
    exact ⟨by omega, by omega⟩) n (Nat.le_refl _)
  have m1 : ∀ i j, (cj_M B O n i j).natAbs ≤ 17496 := fun i j => by
    unfold cj_M
    split
    · exact xb i (by assumption) j
    · exact Nat.zero_le _
  have m2 : ∀ i k j l, (gv2 (cj_M B O n i) (cj_M B O n k) j l).natAbs ≤ 2 * 17496 * 17496 := fun i k j l => mt_mm (m1 i j) (m1 k l) (m1 i l) (m1 k j)
  have m3 : ∀ i k p j l m, (gv3 (cj_M B O n i) (cj_M B O n k) (cj_M B O n p) j l m).natAbs ≤ 32135106871296 := fun i k p j l m => by
    unfold gv3
    have p1 : (cj_M B O n i j * gv2 (cj_M B O n k) (cj_M B O n p) l m).natAbs ≤ 17496 * (2 * 17496 * 17496) := by rw [gr_n3]; exact Nat.mul_le_mul (m1 _ _) (m2 _ _ _ _)
    have p2 : (cj_M B O n i l * gv2 (cj_M B O n k) (cj_M B O n p) j m).natAbs ≤ 17496 * (2 * 17496 * 17496) := by rw [gr_n3]; exact Nat.mul_le_mul (m1 _ _) (m2 _ _ _ _)
    have p3 : (cj_M B O n i m * gv2 (cj_M B O n k) (cj_M B O n p) j l).natAbs ≤ 17496 * (2 * 17496 * 17496) := by rw [gr_n3]; exact Nat.mul_le_mul (m1 _ _) (m2 _ _ _ _)
    omega
  have m2' : ∀ i k j l, (gv2 (cj_M B O n i) (cj_M B O n k) j l).natAbs ≤ 32135106871296 := fun i k j l => by have := m2 i k j l; omega
  obtain ⟨Y, s, y1, y2, y3, y4, y5, Bd, b1, b2, b3⟩ := gr_G1 (Q := gq_Q 17496 32135106871296) (m := 639) (t := n) (wd := cg_rk B n) (K := 32135106871296) (M := cj_M B O n) (L := ax_bo 639 a b n n L) hr3 (gq_Q.ok hn hr3 (by decide)) (gq_Q.s m1 m2' m3) (fun i j h => by
    unfold cj_M
    by_cases c : i < n
    · rw [if_pos c]; exact if_neg (by omega)
    · rw [if_neg c]) (fun i j hi hj => by
    rw [c2 i j hi hj]; unfold cj_M; rw [if_pos hi]) (by decide) (by decide) (fun i j => by have := m1 i j; omega) m2' m3
  refine ⟨Y, s, ?_, fun q h1 h2 h3 => (y2 q h2 h3).trans (c1 q h1 h2), y3, y4, y5, fun i hi => b3.lt b1 (by omega) hi, hrk⟩
  show ax_G1 639 n (ax_rk (L a) n) gr_F (ax_bo 639 a b n n L) = some Y
  rw [hrk]; exact y1
/-- the class -/
theorem cj_cls {L : ax_L} {a x n : Nat} {N O : Nat → Nat → Int} (hx : x < a + 2 ∨ a + 56 < x) (hn : n ≤ 3) (hN : mt_lat L (a + 28) N) (hO : mt_lat L (a + 1) O) (hBN : cg_B n N) (hBO : cg_B n O) (hsp : ∀ r, r < n → mt_sp n N (O r)) (hV : ∀ r j, r < n → j < n → (O r j).natAbs ≤ 4374) (hNo : ∀ k j, mt_ok (N k j)) (hNl : ∀ j, (N j j).natAbs ≤ 26198073) :
    ∃ s, og_at (ax_frL0 L a x n) x (cg_rk N n) s ∧ gr_is s (cj_M N O n) ∧ (∀ q, (q < a + 36 ∨ a + 54 < q) → q ≠ x → ax_frL0 L a x n q = L q) ∧ ax_rkc (a + 28) L n = cg_rk N n := by
  have hrk := cg_rkc hN (show n ≤ 6 by omega) hNo n (Nat.le_refl _)
  have hr3 : cg_rk N n ≤ 3 := by have := cg_rk_le N n; omega
  have cl : ∀ q z, ax_clr (a + 46) 6 L q z = if (a + 46 + 2 ≤ q ∧ q < a + 46 + 8) ∧ z < 6 then 0 else L q z := fun q z => gx_clr q z
  have cf : ∀ q, (q < a + 48 ∨ a + 54 ≤ q) → ax_clr (a + 46) 6 L q = L q := fun q hq => by funext z; rw [cl, if_neg (by omega)]
  obtain ⟨b1, b2, b3⟩ := cj_bin (L := L) (J0 := ax_clr (a + 46) 6 L) (a := a + 46) (b := a + 1) (c := a + 28) (n := n) (ρ := cg_rk N n) hn (by omega) (by omega) (fun k j h1 h2 => by rw [cf _ (by omega)]; exact hN k j h1 h2) (fun k j h1 h2 => by rw [cf _ (by omega)]; exact hO k j h1 h2) hBN hBO hsp hV hNl (fun k j h1 h2 => by rw [cl, if_pos (by omega)]) rfl hrk n (Nat.le_refl _)
  have hBT : cg_B (cg_rk N n) (mt_nt (cg_rk N n) n (fun r => co N n (O r))) := ⟨b2.1, fun k j hk => by unfold mt_nt; rw [if_neg (by omega)]⟩
  obtain ⟨f1, f2, f3, f4⟩ := cj_f hn hBN hBO hsp hV rfl hBT b2.2.1 b2.2.2
  obtain ⟨s, s1, s2, s3⟩ := gr_ofq (L := ax_bin L (a + 46) (a + 1) (a + 28) n n (ax_clr (a + 46) 6 L)) (x := x) (b := a + 46) (v := cg_rk N n) (by omega) hr3 b1 hBT f1 f2 ⟨f3, f4⟩
  have eF : ax_frL0 L a x n = (ax_ofq (ax_bin L (a + 46) (a + 1) (a + 28) n n (ax_clr (a + 46) 6 L)) x (a + 46) (cg_rk N n) (cg_rk N n) (ax_bin L (a + 46) (a + 1) (a + 28) n n (ax_clr (a + 46) 6 L), 1)).1 := by
    unfold ax_frL0; rw [hrk]
  refine ⟨s, ?_, s1.of_D ?_, fun q hq hqx => ?_, hrk⟩
  · rw [eF]; exact s2
  · refine gr_D.sp (n := n) (m := cg_rk N n) (fun i hi => (b2.2.2 i hi).cg (fun j => by unfold cj_M; rw [if_pos hi])) (fun i hi => mt_sp.le (fun k hk => (mt_sp.row (X := cj_M N O n) hk).cg (fun j => by unfold cj_M; rw [if_pos hk])) (b2.2.1 i hi)) (fun i j hi => by unfold cj_M; rw [if_neg (by omega)]) (fun i j hi => hBT.2 i j hi)
  · rw [eF, s3 q hqx, b3 q (by omega) (by omega), cf q (by omega)]

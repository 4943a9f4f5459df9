/-! ===== rings: what divides all minors tells them ===== -/
def gr_is (r : Nat → Nat) (M : Nat → Nat → Int) : Prop := (∀ c : Int, gr_d1 c M ↔ c ∣ (r 0 : Int)) ∧ (∀ c : Int, gr_d2 c M ↔ c ∣ ((r 0 * r 1 : Nat) : Int)) ∧ (∀ c : Int, gr_d3 c M ↔ c ∣ ((r 0 * r 1 * r 2 : Nat) : Int)) ∧ (r 0 = 0 → r 1 = 0) ∧ (r 1 = 0 → r 2 = 0)
theorem gr_eqd {x y : Nat} (h : ∀ c : Int, c ∣ (x : Int) ↔ c ∣ (y : Int)) : x = y :=
  Nat.dvd_antisymm (Int.natCast_dvd_natCast.mp ((h x).mp (Int.dvd_refl _))) (Int.natCast_dvd_natCast.mp ((h y).mpr (Int.dvd_refl _)))
theorem gr_is.uniq {r s : Nat → Nat} {M N : Nat → Nat → Int} (hr : gr_is r M) (hs : gr_is s N) (h : gr_D M N) : ∀ k, k < 3 → r k = s k := by
  obtain ⟨r1, r2, r3, r4, r5⟩ := hr
  obtain ⟨s1, s2, s3, s4, s5⟩ := hs
  have e0 := gr_eqd (fun c => (r1 c).symm.trans ((h.1 c).trans (s1 c)))
  have e1 := gr_eqd (fun c => (r2 c).symm.trans ((h.2.1 c).trans (s2 c)))
  have e2 := gr_eqd (fun c => (r3 c).symm.trans ((h.2.2 c).trans (s3 c)))
  have f1 : r 1 = s 1 := by
    by_cases z : r 0 = 0
    · rw [r4 z, s4 (by rw [← e0]; exact z)]
    · rw [← e0] at e1
      exact Nat.eq_of_mul_eq_mul_left (by omega) e1
  have f2 : r 2 = s 2 := by
    by_cases z : r 1 = 0
    · rw [r5 z, s5 (by rw [← f1]; exact z)]
    · have z0 : r 0 ≠ 0 := fun y => z (r4 y)
      rw [← e1] at e2
      exact Nat.eq_of_mul_eq_mul_left (Nat.mul_pos (by omega) (by omega)) e2
  intro k hk
  rcases (show k = 0 ∨ k = 1 ∨ k = 2 by omega) with rfl | rfl | rfl
  · exact e0
  · exact f1
  · exact f2
/-! of three numbers -/
def dd1 (e : Nat) (f : Nat → Nat) : Prop := ∀ k, k < 3 → e ∣ f k
def dd2 (e : Nat) (f : Nat → Nat) : Prop := ∀ i k, i < 3 → k < 3 → i ≠ k → e ∣ f i * f k
def dd3 (e : Nat) (f : Nat → Nat) : Prop := e ∣ f 0 * f 1 * f 2
theorem gr_na {c x : Int} : c ∣ x ↔ c.natAbs ∣ x.natAbs := Int.natAbs_dvd_natAbs.symm
theorem gr_dg1 {c : Int} {N : Nat → Nat → Int} (hd : ∀ i j, i ≠ j → N i j = 0) (hO : ∀ k, 3 ≤ k → N k k = 0) : gr_d1 c N ↔ dd1 c.natAbs (fun k => (N k k).natAbs) := by
  refine ⟨fun h k _ => gr_na.mp (h k k), fun h i j => ?_⟩
  by_cases e : i = j
  · subst e
    by_cases hi : i < 3
    · exact gr_na.mpr (h i hi)
    · rw [hO i (by omega)]; exact gv_d0 c
  · rw [hd i j e]; exact gv_d0 c
theorem gr_dg2 {c : Int} {N : Nat → Nat → Int} (hd : ∀ i j, i ≠ j → N i j = 0) (hO : ∀ k, 3 ≤ k → N k k = 0) : gr_d2 c N ↔ dd2 c.natAbs (fun k => (N k k).natAbs) := by
  refine ⟨fun h i k _ _ hne => ?_, fun h i k j l => ?_⟩
  · have h1 := h i k i k
    unfold gv2 at h1
    rw [hd i k hne, Int.zero_mul, Int.sub_zero, gr_na, gr_n3] at h1
    exact h1
  · by_cases e : i = k
    · subst e; rw [gv2_z]; exact gv_d0 c
    · have P : c ∣ N i i * N k k := by
        by_cases hi : i < 3
        · by_cases hk : k < 3
          · rw [gr_na, gr_n3]; exact h i k hi hk e
          · rw [hO k (by omega), Int.mul_zero]; exact gv_d0 c
        · rw [hO i (by omega), Int.zero_mul]; exact gv_d0 c
      have T : ∀ j l, c ∣ N i j * N k l := fun j l => by
        by_cases c1 : i = j
        · by_cases c2 : k = l
          · subst c1; subst c2; exact P
          · rw [hd k l c2, Int.mul_zero]; exact gv_d0 c
        · rw [hd i j c1, Int.zero_mul]; exact gv_d0 c
      exact gv_ds (T j l) (T l j)
theorem gr_six (u v w : Nat → Int) (j l m : Nat) : gv3 u v w j l m = u j * (v l * w m) - u j * (v m * w l) - (u l * (v j * w m) - u l * (v m * w j)) + (u m * (v j * w l) - u m * (v l * w j)) := by unfold gv3 gv2; grind
theorem gr_dg3 {c : Int} {N : Nat → Nat → Int} (hd : ∀ i j, i ≠ j → N i j = 0) (hO : ∀ k, 3 ≤ k → N k k = 0) : gr_d3 c N ↔ dd3 c.natAbs (fun k => (N k k).natAbs) := by
  refine ⟨fun h => ?_, fun h i k p j l m => ?_⟩
  · have h1 := h 0 1 2 0 1 2
    rw [gr_six, hd 0 1 (by decide), hd 0 2 (by decide), hd 1 2 (by decide), Int.zero_mul, Int.zero_mul, Int.zero_mul, Int.zero_mul, Int.zero_mul, Int.mul_zero, gr_na] at h1
    unfold dd3
    dsimp only
    rw [Nat.mul_assoc, ← gr_n3, ← gr_n3]
    simpa using h1
  · by_cases e1 : i = k
    · subst e1; rw [gv3_z12]; exact gv_d0 c
    by_cases e2 : k = p
    · subst e2; rw [gv3_z23]; exact gv_d0 c
    by_cases e3 : i = p
    · subst e3; rw [gv3_z13]; exact gv_d0 c
    have P : c ∣ N i i * (N k k * N p p) := by
      by_cases hi : i < 3
      · by_cases hk : k < 3
        · by_cases hp : p < 3
          · rw [gr_na, gr_n3, gr_n3]
            unfold dd3 at h
            dsimp only at h
            rcases (show (i = 0 ∧ k = 1 ∧ p = 2) ∨ (i = 0 ∧ k = 2 ∧ p = 1) ∨ (i = 1 ∧ k = 0 ∧ p = 2) ∨ (i = 1 ∧ k = 2 ∧ p = 0) ∨ (i = 2 ∧ k = 0 ∧ p = 1) ∨ (i = 2 ∧ k = 1 ∧ p = 0) by omega) with ⟨rfl, rfl, rfl⟩ | ⟨rfl, rfl, rfl⟩ | ⟨rfl, rfl, rfl⟩ | ⟨rfl, rfl, rfl⟩ | ⟨rfl, rfl, rfl⟩ | ⟨rfl, rfl, rfl⟩ <;>
            · generalize (N 0 0).natAbs = x0 at *
              generalize (N 1 1).natAbs = x1 at *
              generalize (N 2 2).natAbs = x2 at *
              refine Nat.dvd_trans h ⟨1, ?_⟩
              rw [Nat.mul_one]; ac_rfl
          · rw [hO p (by omega), Int.mul_zero, Int.mul_zero]; exact gv_d0 c
        · rw [hO k (by omega), Int.zero_mul, Int.mul_zero]; exact gv_d0 c
      · rw [hO i (by omega), Int.zero_mul]; exact gv_d0 c
    have T : ∀ j l m, c ∣ N i j * (N k l * N p m) := fun j l m => by
      by_cases c1 : i = j
      · by_cases c2 : k = l
        · by_cases c3 : p = m
          · subst c1; subst c2; subst c3; exact P
          · rw [hd p m c3, Int.mul_zero, Int.mul_zero]; exact gv_d0 c
        · rw [hd k l c2, Int.zero_mul, Int.mul_zero]; exact gv_d0 c
      · rw [hd i j c1, Int.zero_mul]; exact gv_d0 c
    rw [gr_six]
    exact gv_da (gv_ds (gv_ds (T _ _ _) (T _ _ _)) (gv_ds (T _ _ _) (T _ _ _))) (gv_ds (T _ _ _) (T _ _ _))
/-! the same numbers divide two threes -/
def dd_D (f g : Nat → Nat) : Prop := (∀ e, dd1 e f ↔ dd1 e g) ∧ (∀ e, dd2 e f ↔ dd2 e g) ∧ ∀ e, dd3 e f ↔ dd3 e g
theorem dd_D.trans {f g h : Nat → Nat} (a : dd_D f g) (b : dd_D g h) : dd_D f h := ⟨fun e => (a.1 e).trans (b.1 e), fun e => (a.2.1 e).trans (b.2.1 e), fun e => (a.2.2 e).trans (b.2.2 e)⟩
theorem dd2_iff {e i j : Nat} {f : Nat → Nat} (hi : i < 3) (hj : j < 3) (hij : i ≠ j) : dd2 e f ↔ e ∣ f i * f j ∧ ∀ t, t < 3 → t ≠ i → t ≠ j → e ∣ f i * f t ∧ e ∣ f j * f t := by
  refine ⟨fun h => ⟨h i j hi hj hij, fun t ht h1 h2 => ⟨h i t hi ht h1.symm, h j t hj ht h2.symm⟩⟩, fun ⟨h1, h2⟩ x y hx hy hxy => ?_⟩
  by_cases x1 : x = i
  · subst x1
    by_cases y1 : y = j
    · subst y1; exact h1
    · exact (h2 y hy hxy.symm y1).1
  · by_cases x2 : x = j
    · subst x2
      by_cases y1 : y = i
      · subst y1; rw [Nat.mul_comm]; exact h1
      · exact (h2 y hy y1 hxy.symm).2
    · by_cases y1 : y = i
      · subst y1; rw [Nat.mul_comm]; exact (h2 x hx x1 x2).1
      · have y2 : y = j := by omega
        subst y2; rw [Nat.mul_comm]; exact (h2 x hx x1 x2).2
theorem dd3_iff {e i j : Nat} {f : Nat → Nat} (hi : i < 3) (hj : j < 3) (hij : i ≠ j) : dd3 e f ↔ e ∣ f i * f j * f (3 - i - j) := by
  unfold dd3
  have : f 0 * f 1 * f 2 = f i * f j * f (3 - i - j) := by
    rcases (show (i = 0 ∧ j = 1) ∨ (i = 0 ∧ j = 2) ∨ (i = 1 ∧ j = 0) ∨ (i = 1 ∧ j = 2) ∨ (i = 2 ∧ j = 0) ∨ (i = 2 ∧ j = 1) by omega) with ⟨rfl, rfl⟩ | ⟨rfl, rfl⟩ | ⟨rfl, rfl⟩ | ⟨rfl, rfl⟩ | ⟨rfl, rfl⟩ | ⟨rfl, rfl⟩
    · rfl
    · show _ = f 0 * f 2 * f 1; ac_rfl
    · show _ = f 1 * f 0 * f 2; ac_rfl
    · show _ = f 1 * f 2 * f 0; ac_rfl
    · show _ = f 2 * f 0 * f 1; ac_rfl
    · show _ = f 2 * f 1 * f 0; ac_rfl
  rw [this]
theorem og1_D {i j : Nat} {f : Nat → Nat} (hi : i < 3) (hj : j < 3) (hij : i ≠ j) : dd_D f (og1 i j f) := by
  have ea := Nat.mul_div_cancel' (Nat.gcd_dvd_left (f i) (f j))
  have eb := Nat.mul_div_cancel' (Nat.gcd_dvd_right (f i) (f j))
  refine ⟨fun e => ⟨fun h => og1_all (P := fun k => k < 3) hi hj hij h, fun h k hk => ?_⟩, fun e => ?_, fun e => ?_⟩
  · have h1 := h i hi
    rw [og1_i hij] at h1
    by_cases c1 : k = i
    · subst c1; exact Nat.dvd_trans h1 (Nat.gcd_dvd_left _ _)
    · by_cases c2 : k = j
      · subst c2; exact Nat.dvd_trans h1 (Nat.gcd_dvd_right _ _)
      · have := h k hk
        rw [og1_o c1 c2] at this; exact this
  · rw [dd2_iff hi hj hij, dd2_iff (f := og1 i j f) hi hj hij, og1_i hij, og1_j, og1_p]
    refine and_congr Iff.rfl ⟨fun h t ht h1 h2 => ?_, fun h t ht h1 h2 => ?_⟩
    · obtain ⟨a1, a2⟩ := h t ht h1 h2
      rw [og1_o h1 h2]
      refine ⟨?_, ?_⟩
      · rw [← Nat.gcd_mul_right]; exact Nat.dvd_gcd a1 a2
      · rw [Nat.mul_assoc]; exact Nat.dvd_mul_left_of_dvd a2 _
    · obtain ⟨a1, a2⟩ := h t ht h1 h2
      rw [og1_o h1 h2] at a1 a2
      refine ⟨?_, ?_⟩
      · rw [← ea, Nat.mul_right_comm]; exact Nat.dvd_mul_right_of_dvd a1 _
      · rw [← eb, Nat.mul_right_comm]; exact Nat.dvd_mul_right_of_dvd a1 _
  · rw [dd3_iff hi hj hij, dd3_iff (f := og1 i j f) hi hj hij, og1_i hij, og1_j, og1_p, og1_o (by omega) (by omega)]
theorem og2_D {i : Nat} {f : Nat → Nat} : ∀ n, i + n < 3 → dd_D f (og2 i n f) := by
  intro n
  induction n with
  | zero => exact fun _ => ⟨fun _ => Iff.rfl, fun _ => Iff.rfl, fun _ => Iff.rfl⟩
  | succ n ih => exact fun hn => (ih (by omega)).trans (og1_D (by omega) (by omega) (by omega))
theorem og3_D {q : Nat} {f : Nat → Nat} (hq : q ≤ 3) : ∀ n, n ≤ q → dd_D f (og3 q n f) := by
  intro n
  induction n with
  | zero => exact fun _ => ⟨fun _ => Iff.rfl, fun _ => Iff.rfl, fun _ => Iff.rfl⟩
  | succ n ih => exact fun hn => (ih (by omega)).trans (og2_D _ (by omega))
/-- three numbers, each of which divides the next -/
theorem dd_ch {r : Nat → Nat} (h : ∀ i j, i < j → j < 3 → r i ∣ r j) : (∀ e, dd1 e r ↔ e ∣ r 0) ∧ (∀ e, dd2 e r ↔ e ∣ r 0 * r 1) ∧ ∀ e, dd3 e r ↔ e ∣ r 0 * r 1 * r 2 := by
  refine ⟨fun e => ⟨fun z => z 0 (by omega), fun z k hk => ?_⟩, fun e => ?_, fun e => Iff.rfl⟩
  · by_cases c : k = 0
    · subst c; exact z
    · exact Nat.dvd_trans z (h 0 k (by omega) hk)
  · rw [dd2_iff (i := 0) (j := 1) (by omega) (by omega) (by omega)]
    refine ⟨fun z => z.1, fun z => ⟨z, fun t ht h1 h2 => ?_⟩⟩
    have et : t = 2 := by omega
    subst et
    exact ⟨Nat.dvd_trans z (Nat.mul_dvd_mul_left _ (h 1 2 (by omega) (by omega))), Nat.dvd_trans z (by rw [Nat.mul_comm (r 0)]; exact Nat.mul_dvd_mul_left _ (h 0 2 (by omega) (by omega)))⟩
/-- a grid that is alone on its diagonal, its numbers in order -/
theorem gr_fin {t wd : Nat} {N : Nat → Nat → Int} {f : Nat → Nat} (hw : wd ≤ 3) (hd : ∀ i j, i ≠ j → N i j = 0) (hO : gr_O t wd N) (hf : ∀ k, f k = (N k k).natAbs) : gr_is (og3 wd wd f) N ∧ (∀ i j, i < j → j < 3 → og3 wd wd f i ∣ og3 wd wd f j) := by
  have ef : f = fun k => (N k k).natAbs := funext hf
  have hO3 : ∀ k, 3 ≤ k → N k k = 0 := fun k hk => hO k k (Or.inr (by omega))
  have ch : ∀ i j, i < j → j < 3 → og3 wd wd f i ∣ og3 wd wd f j := fun i j hij hj => by
    by_cases h : j < wd
    · exact og3_ch wd (Nat.le_refl _) i j (by omega) hij h
    · rw [og3_o (k := j) (by omega) wd (Nat.le_refl _), hf j, hO j j (Or.inr (by omega))]; exact Nat.dvd_zero _
  obtain ⟨a1, a2, a3⟩ := dd_ch ch
  obtain ⟨b1, b2, b3⟩ := og3_D (f := f) hw wd (Nat.le_refl _)
  refine ⟨⟨fun c => ?_, fun c => ?_, fun c => ?_, fun h => ?_, fun h => ?_⟩, ch⟩
  · rw [gr_dg1 hd hO3, ← ef, b1, a1, Int.ofNat_dvd_right]
  · rw [gr_dg2 hd hO3, ← ef, b2, a2, Int.ofNat_dvd_right]
  · rw [gr_dg3 hd hO3, ← ef, b3, a3, Int.ofNat_dvd_right]
  · have := ch 0 1 (by omega) (by omega)
    rw [h] at this; exact Nat.eq_zero_of_zero_dvd this
  · have := ch 1 2 (by omega) (by omega)
    rw [h] at this; exact Nat.eq_zero_of_zero_dvd this
/-- what is not 0 divides a number that is not great -/
theorem gr_big {t wd K : Nat} {M N : Nat → Nat → Int} (hw : wd ≤ 3) (hd : ∀ i j, i ≠ j → N i j = 0) (hO : gr_O t wd N) (hD : gr_D M N) (K1 : 1 ≤ K) (k1 : ∀ i j, (M i j).natAbs ≤ K) (k2 : ∀ i k j l, (gv2 (M i) (M k) j l).natAbs ≤ K) (k3 : ∀ i k p j l m, (gv3 (M i) (M k) (M p) j l m).natAbs ≤ K) : ∃ B, 0 < B ∧ B ≤ K ∧ og_b B 3 (fun k => (N k k).natAbs) := by
  have hO3 : ∀ k, 3 ≤ k → N k k = 0 := fun k hk => hO k k (Or.inr (by omega))
  generalize ef : (fun k => (N k k).natAbs) = f
  have d1 : ∀ c : Int, gr_d1 c M ↔ dd1 c.natAbs f := fun c => by rw [hD.1 c, gr_dg1 hd hO3, ef]
  have d2 : ∀ c : Int, gr_d2 c M ↔ dd2 c.natAbs f := fun c => by rw [hD.2.1 c, gr_dg2 hd hO3, ef]
  have d3 : ∀ c : Int, gr_d3 c M ↔ dd3 c.natAbs f := fun c => by rw [hD.2.2 c, gr_dg3 hd hO3, ef]
  have b1 : ∀ x : Nat, x ≠ 0 → (∀ e, dd1 e f ↔ e ∣ x) → x ≤ K := fun x hx h => by
    have ha := (d1 (x : Int)).mpr ((h _).mpr (by rw [Int.natAbs_natCast]; exact Nat.dvd_refl x))
    apply Classical.byContradiction
    intro hlt
    refine hx (Nat.eq_zero_of_zero_dvd ((h 0).mp ((d1 0).mp (fun i j => ?_))))
    have h1 := Int.ofNat_dvd_left.mp (ha i j)
    have h2 := k1 i j
    have : (M i j).natAbs = 0 := by
      apply Classical.byContradiction
      intro hne
      have := Nat.le_of_dvd (by omega) h1
      omega
    rw [Int.natAbs_eq_zero.mp this]; exact gv_d0 0
  have b2 : ∀ x : Nat, x ≠ 0 → (∀ e, dd2 e f ↔ e ∣ x) → x ≤ K := fun x hx h => by
    have ha := (d2 (x : Int)).mpr ((h _).mpr (by rw [Int.natAbs_natCast]; exact Nat.dvd_refl x))
    apply Classical.byContradiction
    intro hlt
    refine hx (Nat.eq_zero_of_zero_dvd ((h 0).mp ((d2 0).mp (fun i k j l => ?_))))
    have h1 := Int.ofNat_dvd_left.mp (ha i k j l)
    have h2 := k2 i k j l
    have : (gv2 (M i) (M k) j l).natAbs = 0 := by
      apply Classical.byContradiction
      intro hne
      have := Nat.le_of_dvd (by omega) h1
      omega
    rw [Int.natAbs_eq_zero.mp this]; exact gv_d0 0
  have b3 : ∀ x : Nat, x ≠ 0 → (∀ e, dd3 e f ↔ e ∣ x) → x ≤ K := fun x hx h => by
    have ha := (d3 (x : Int)).mpr ((h _).mpr (by rw [Int.natAbs_natCast]; exact Nat.dvd_refl x))
    apply Classical.byContradiction
    intro hlt
    refine hx (Nat.eq_zero_of_zero_dvd ((h 0).mp ((d3 0).mp (fun i k p j l m => ?_))))
    have h1 := Int.ofNat_dvd_left.mp (ha i k p j l m)
    have h2 := k3 i k p j l m
    have : (gv3 (M i) (M k) (M p) j l m).natAbs = 0 := by
      apply Classical.byContradiction
      intro hne
      have := Nat.le_of_dvd (by omega) h1
      omega
    rw [Int.natAbs_eq_zero.mp this]; exact gv_d0 0
  have two : ∀ i k t, i < 3 → k < 3 → t < 3 → i ≠ k → t ≠ i → t ≠ k → f i ≠ 0 → f k ≠ 0 → f t = 0 → ∃ B, 0 < B ∧ B ≤ K ∧ og_b B 3 f := fun i k t hi hk ht h1 h2 h3 n1 n2 z => by
    refine ⟨f i * f k, Nat.mul_pos (by omega) (by omega), b2 _ (by have := Nat.mul_pos (show 0 < f i by omega) (show 0 < f k by omega); omega) (fun e => ?_), fun x hx => ?_⟩
    · rw [dd2_iff hi hk h1]
      refine ⟨fun y => y.1, fun y => ⟨y, fun s hs s1 s2 => ?_⟩⟩
      have : s = t := by omega
      subst this
      rw [z, Nat.mul_zero, Nat.mul_zero]; exact ⟨Nat.dvd_zero _, Nat.dvd_zero _⟩
    · rcases (show x = i ∨ x = k ∨ x = t by omega) with e | e | e
      · rw [e]; exact Or.inr (Nat.dvd_mul_right _ _)
      · rw [e]; exact Or.inr (Nat.dvd_mul_left _ _)
      · rw [e]; exact Or.inl z
  have one : ∀ i k t, i < 3 → k < 3 → t < 3 → i ≠ k → t ≠ i → t ≠ k → f i ≠ 0 → f k = 0 → f t = 0 → ∃ B, 0 < B ∧ B ≤ K ∧ og_b B 3 f := fun i k t hi hk ht h1 h2 h3 n1 z1 z2 => by
    refine ⟨f i, by omega, b1 _ n1 (fun e => ⟨fun h => h i hi, fun h x hx => ?_⟩), fun x hx => ?_⟩
    · rcases (show x = i ∨ x = k ∨ x = t by omega) with e | e | e
      · rw [e]; exact h
      · rw [e, z1]; exact Nat.dvd_zero _
      · rw [e, z2]; exact Nat.dvd_zero _
    · rcases (show x = i ∨ x = k ∨ x = t by omega) with e | e | e
      · rw [e]; exact Or.inr (Nat.dvd_refl _)
      · rw [e]; exact Or.inl z1
      · rw [e]; exact Or.inl z2
  by_cases c0 : f 0 = 0
  · by_cases c1 : f 1 = 0
    · by_cases c2 : f 2 = 0
      · refine ⟨1, by omega, K1, fun x hx => ?_⟩
        rcases (show x = 0 ∨ x = 1 ∨ x = 2 by omega) with e | e | e <;> rw [e] <;> exact Or.inl (by assumption)
      · exact one 2 0 1 (by omega) (by omega) (by omega) (by omega) (by omega) (by omega) c2 c0 c1
    · by_cases c2 : f 2 = 0
      · exact one 1 0 2 (by omega) (by omega) (by omega) (by omega) (by omega) (by omega) c1 c0 c2
      · exact two 1 2 0 (by omega) (by omega) (by omega) (by omega) (by omega) (by omega) c1 c2 c0
  · by_cases c1 : f 1 = 0
    · by_cases c2 : f 2 = 0
      · exact one 0 1 2 (by omega) (by omega) (by omega) (by omega) (by omega) (by omega) c0 c1 c2
      · exact two 0 2 1 (by omega) (by omega) (by omega) (by omega) (by omega) (by omega) c0 c2 c1
    · by_cases c2 : f 2 = 0
      · exact two 0 1 2 (by omega) (by omega) (by omega) (by omega) (by omega) (by omega) c0 c1 c2
      · have hp : 0 < f 0 * f 1 * f 2 := Nat.mul_pos (Nat.mul_pos (by omega) (by omega)) (by omega)
        refine ⟨f 0 * f 1 * f 2, hp, b3 _ (by omega) (fun e => Iff.rfl), fun x hx => ?_⟩
        rcases (show x = 0 ∨ x = 1 ∨ x = 2 by omega) with e | e | e
        · rw [e]; exact Or.inr ⟨f 1 * f 2, by rw [Nat.mul_assoc]⟩
        · rw [e]; exact Or.inr ⟨f 0 * f 2, by ac_rfl⟩
        · rw [e]; exact Or.inr (Nat.dvd_mul_left _ _)

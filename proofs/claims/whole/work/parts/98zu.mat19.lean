/-! ===== minors: what divides all of them; a grid's rows and columns taken from one another ===== -/
def gv2 (u v : Nat → Int) (j l : Nat) : Int := u j * v l - u l * v j
def gv3 (u v w : Nat → Int) (j l m : Nat) : Int := u j * gv2 v w l m - u l * gv2 v w j m + u m * gv2 v w j l
theorem gv_dm {c x : Int} (y : Int) (h : c ∣ x) : c ∣ y * x := by
  obtain ⟨k, hk⟩ := h
  exact ⟨y * k, by rw [hk]; ac_rfl⟩
theorem gv_da {c x y : Int} (h : c ∣ x) (h2 : c ∣ y) : c ∣ x + y := by
  obtain ⟨k, hk⟩ := h
  obtain ⟨l, hl⟩ := h2
  exact ⟨k + l, by rw [hk, hl, Int.mul_add]⟩
theorem gv_ds {c x y : Int} (h : c ∣ x) (h2 : c ∣ y) : c ∣ x - y := by
  obtain ⟨k, hk⟩ := h
  obtain ⟨l, hl⟩ := h2
  exact ⟨k - l, by rw [hk, hl, Int.mul_sub]⟩
theorem gv_dn {c x : Int} (h : c ∣ x) : c ∣ -x := by
  obtain ⟨k, hk⟩ := h
  exact ⟨-k, by rw [hk, Int.mul_neg]⟩
theorem gv_d0 (c : Int) : c ∣ 0 := ⟨0, (Int.mul_zero c).symm⟩
theorem gv_ss {c : Int} {f : Nat → Int} : ∀ {n : Nat}, (∀ i, i < n → c ∣ f i) → c ∣ mt_s f n := by
  intro n
  induction n with
  | zero => exact fun _ => gv_d0 c
  | succ n ih => exact fun h => gv_da (ih (fun i hi => h i (by omega))) (h n (by omega))
theorem gv2_an (u v : Nat → Int) (j l : Nat) : gv2 v u j l = -gv2 u v j l := by unfold gv2; grind
theorem gv2_ac (u v : Nat → Int) (j l : Nat) : gv2 u v l j = -gv2 u v j l := by unfold gv2; grind
theorem gv2_z (u : Nat → Int) (j l : Nat) : gv2 u u j l = 0 := by unfold gv2; grind
theorem gv2_zc (u v : Nat → Int) (j : Nat) : gv2 u v j j = 0 := by unfold gv2; grind
theorem gv3_a12 (u v w : Nat → Int) (j l m : Nat) : gv3 v u w j l m = -gv3 u v w j l m := by unfold gv3 gv2; grind
theorem gv3_a23 (u v w : Nat → Int) (j l m : Nat) : gv3 u w v j l m = -gv3 u v w j l m := by unfold gv3 gv2; grind
theorem gv3_c12 (u v w : Nat → Int) (j l m : Nat) : gv3 u v w l j m = -gv3 u v w j l m := by unfold gv3 gv2; grind
theorem gv3_c23 (u v w : Nat → Int) (j l m : Nat) : gv3 u v w j m l = -gv3 u v w j l m := by unfold gv3 gv2; grind
theorem gv3_z12 (u w : Nat → Int) (j l m : Nat) : gv3 u u w j l m = 0 := by unfold gv3 gv2; grind
theorem gv3_z13 (u w : Nat → Int) (j l m : Nat) : gv3 u w u j l m = 0 := by unfold gv3 gv2; grind
theorem gv3_z23 (u w : Nat → Int) (j l m : Nat) : gv3 u w w j l m = 0 := by unfold gv3 gv2; grind
theorem gv3_zc (u v w : Nat → Int) (j m : Nat) : gv3 u v w j j m = 0 := by unfold gv3 gv2; grind
theorem gv3_zc2 (u v w : Nat → Int) (j m : Nat) : gv3 u v w j m m = 0 := by unfold gv3 gv2; grind
theorem gv3_zc3 (u v w : Nat → Int) (j m : Nat) : gv3 u v w j m j = 0 := by unfold gv3 gv2; grind
/-- a sum of rows, and three of its places -/
theorem gv_lin {N : Nat} {X : Nat → Nat → Int} {u : Nat → Int} {c a b e : Int} {j l m : Nat} (h : ∀ i, i < N → c ∣ X i j * a + X i l * b + X i m * e) (hu : mt_sp N X u) : c ∣ u j * a + u l * b + u m * e := by
  obtain ⟨d, hd⟩ := hu
  have e1 : u j * a + u l * b + u m * e = mt_s (fun i => d i * (X i j * a + X i l * b + X i m * e)) N := by
    rw [hd j, hd l, hd m, Int.mul_comm _ a, Int.mul_comm _ b, Int.mul_comm _ e, ← mt_s_mul, ← mt_s_mul, ← mt_s_mul, ← mt_s_add, ← mt_s_add]
    exact mt_s_cg (fun i _ => by grind)
  rw [e1]
  exact gv_ss (fun i hi => gv_dm _ (h i hi))
theorem gv2_sp {N : Nat} {X : Nat → Nat → Int} {u v : Nat → Int} {c : Int} {j l : Nat} (h : ∀ i k, i < N → k < N → c ∣ gv2 (X i) (X k) j l) (hu : mt_sp N X u) (hv : mt_sp N X v) : c ∣ gv2 u v j l := by
  have h1 : ∀ i, i < N → c ∣ gv2 (X i) v j l := fun i hi => by
    have := gv_lin (N := N) (X := X) (u := v) (c := c) (a := -X i l) (b := X i j) (e := 0) (j := j) (l := l) (m := j) (fun k hk => by
      have h2 := h i k hi hk
      have : X k j * -X i l + X k l * X i j + X k j * 0 = gv2 (X i) (X k) j l := by unfold gv2; grind
      rw [this]; exact h2) hv
    have e : v j * -X i l + v l * X i j + v j * 0 = gv2 (X i) v j l := by unfold gv2; grind
    rw [e] at this; exact this
  have := gv_lin (N := N) (X := X) (u := u) (c := c) (a := v l) (b := -v j) (e := 0) (j := j) (l := l) (m := j) (fun i hi => by
    have h2 := h1 i hi
    have : X i j * v l + X i l * -v j + X i j * 0 = gv2 (X i) v j l := by unfold gv2; grind
    rw [this]; exact h2) hu
  have e : u j * v l + u l * -v j + u j * 0 = gv2 u v j l := by unfold gv2; grind
  rw [e] at this; exact this
theorem gv3_lin1 (u v w : Nat → Int) (j l m : Nat) : gv3 u v w j l m = u j * gv2 v w l m + u l * -gv2 v w j m + u m * gv2 v w j l := by unfold gv3; grind
theorem gv3_lin2 (u v w : Nat → Int) (j l m : Nat) : gv3 u v w j l m = v j * -gv2 u w l m + v l * gv2 u w j m + v m * -gv2 u w j l := by unfold gv3 gv2; grind
theorem gv3_lin3 (u v w : Nat → Int) (j l m : Nat) : gv3 u v w j l m = w j * gv2 u v l m + w l * -gv2 u v j m + w m * gv2 u v j l := by unfold gv3 gv2; grind
theorem gv3_sp {N : Nat} {X : Nat → Nat → Int} {u v w : Nat → Int} {c : Int} {j l m : Nat} (h : ∀ i k p, i < N → k < N → p < N → c ∣ gv3 (X i) (X k) (X p) j l m) (hu : mt_sp N X u) (hv : mt_sp N X v) (hw : mt_sp N X w) : c ∣ gv3 u v w j l m := by
  have h1 : ∀ i k, i < N → k < N → c ∣ gv3 (X i) (X k) w j l m := fun i k hi hk => by
    rw [gv3_lin3]
    exact gv_lin (fun p hp => by rw [← gv3_lin3]; exact h i k p hi hk hp) hw
  have h2 : ∀ i, i < N → c ∣ gv3 (X i) v w j l m := fun i hi => by
    rw [gv3_lin2]
    exact gv_lin (fun p hp => by rw [← gv3_lin2]; exact h1 i p hi hp) hv
  rw [gv3_lin1]
  exact gv_lin (fun p hp => by rw [← gv3_lin1]; exact h2 p hp) hu
/-! what divides all numbers, all minors of two, of three rows -/
def gr_d1 (c : Int) (M : Nat → Nat → Int) : Prop := ∀ i j, c ∣ M i j
def gr_d2 (c : Int) (M : Nat → Nat → Int) : Prop := ∀ i k j l, c ∣ gv2 (M i) (M k) j l
def gr_d3 (c : Int) (M : Nat → Nat → Int) : Prop := ∀ i k h j l m, c ∣ gv3 (M i) (M k) (M h) j l m
/-- the same numbers divide both's -/
def gr_D (M N : Nat → Nat → Int) : Prop := (∀ c, gr_d1 c M ↔ gr_d1 c N) ∧ (∀ c, gr_d2 c M ↔ gr_d2 c N) ∧ ∀ c, gr_d3 c M ↔ gr_d3 c N
theorem gr_D.refl (M : Nat → Nat → Int) : gr_D M M := ⟨fun _ => Iff.rfl, fun _ => Iff.rfl, fun _ => Iff.rfl⟩
theorem gr_D.trans {M N P : Nat → Nat → Int} (h : gr_D M N) (k : gr_D N P) : gr_D M P := ⟨fun c => (h.1 c).trans (k.1 c), fun c => (h.2.1 c).trans (k.2.1 c), fun c => (h.2.2 c).trans (k.2.2 c)⟩
theorem gr_D.symm {M N : Nat → Nat → Int} (h : gr_D M N) : gr_D N M := ⟨fun c => (h.1 c).symm, fun c => (h.2.1 c).symm, fun c => (h.2.2 c).symm⟩
/-- rows and columns in another order -/
theorem gr_D.mono {M N : Nat → Nat → Int} (h1 : ∀ c, gr_d1 c M → gr_d1 c N) (h2 : ∀ c, gr_d2 c M → gr_d2 c N) (h3 : ∀ c, gr_d3 c M → gr_d3 c N) (k1 : ∀ c, gr_d1 c N → gr_d1 c M) (k2 : ∀ c, gr_d2 c N → gr_d2 c M) (k3 : ∀ c, gr_d3 c N → gr_d3 c M) : gr_D M N := ⟨fun c => ⟨h1 c, k1 c⟩, fun c => ⟨h2 c, k2 c⟩, fun c => ⟨h3 c, k3 c⟩⟩
def gr_s (a b i : Nat) : Nat := if i = a then b else if i = b then a else i
theorem gr_ss (a b i : Nat) : gr_s a b (gr_s a b i) = i := by
  unfold gr_s
  by_cases h1 : i = a
  · rw [if_pos h1]
    by_cases h2 : b = a
    · rw [if_pos h2]; omega
    · rw [if_neg h2, if_pos rfl]; exact h1.symm
  · rw [if_neg h1]
    by_cases h2 : i = b
    · rw [if_pos h2, if_pos rfl]; exact h2.symm
    · rw [if_neg h2, if_neg h1, if_neg h2]
theorem gr_D.pm {M : Nat → Nat → Int} {s t : Nat → Nat} (hs : ∀ i, s (s i) = i) (ht : ∀ i, t (t i) = i) : gr_D M (fun i j => M (s i) (t j)) := by
  refine gr_D.mono (fun c h i j => h _ _) (fun c h i k j l => h (s i) (s k) (t j) (t l)) (fun c h i k p j l m => h (s i) (s k) (s p) (t j) (t l) (t m)) (fun c h i j => ?_) (fun c h i k j l => ?_) (fun c h i k p j l m => ?_)
  · have := h (s i) (t j)
    dsimp only at this
    rw [hs, ht] at this; exact this
  · have := h (s i) (s k) (t j) (t l)
    unfold gv2 at this ⊢
    dsimp only at this
    rw [hs, ht, hs, ht] at this; exact this
  · have := h (s i) (s k) (s p) (t j) (t l) (t m)
    unfold gv3 gv2 at this ⊢
    dsimp only at this
    simp only [hs, ht] at this; exact this
/-- rows less row d, each so often -/
def gr_ro (d : Nat) (q : Nat → Int) (M : Nat → Nat → Int) : Nat → Nat → Int := fun i j => M i j - q i * M d j
def gr_co (d : Nat) (q : Nat → Int) (M : Nat → Nat → Int) : Nat → Nat → Int := fun i j => M i j - q j * M i d
theorem gr_ro2 (d : Nat) (q : Nat → Int) (M : Nat → Nat → Int) (i k j l : Nat) : gv2 (gr_ro d q M i) (gr_ro d q M k) j l = gv2 (M i) (M k) j l - q k * gv2 (M i) (M d) j l - q i * gv2 (M d) (M k) j l := by unfold gr_ro gv2; grind
theorem gr_ro3 (d : Nat) (q : Nat → Int) (M : Nat → Nat → Int) (i k p j l m : Nat) : gv3 (gr_ro d q M i) (gr_ro d q M k) (gr_ro d q M p) j l m = gv3 (M i) (M k) (M p) j l m - q i * gv3 (M d) (M k) (M p) j l m - q k * gv3 (M i) (M d) (M p) j l m - q p * gv3 (M i) (M k) (M d) j l m := by unfold gr_ro gv3 gv2; grind
theorem gr_co2 (d : Nat) (q : Nat → Int) (M : Nat → Nat → Int) (i k j l : Nat) : gv2 (gr_co d q M i) (gr_co d q M k) j l = gv2 (M i) (M k) j l - q l * gv2 (M i) (M k) j d - q j * gv2 (M i) (M k) d l := by unfold gr_co gv2; grind
theorem gr_co3 (d : Nat) (q : Nat → Int) (M : Nat → Nat → Int) (i k p j l m : Nat) : gv3 (gr_co d q M i) (gr_co d q M k) (gr_co d q M p) j l m = gv3 (M i) (M k) (M p) j l m - q j * gv3 (M i) (M k) (M p) d l m - q l * gv3 (M i) (M k) (M p) j d m - q m * gv3 (M i) (M k) (M p) j l d := by unfold gr_co gv3 gv2; grind
theorem gr_ro_b {d : Nat} {q : Nat → Int} {M : Nat → Nat → Int} (h : q d = 0) : gr_ro d (fun i => -q i) (gr_ro d q M) = M := by
  funext i j
  unfold gr_ro
  dsimp only
  rw [h]; grind
theorem gr_co_b {d : Nat} {q : Nat → Int} {M : Nat → Nat → Int} (h : q d = 0) : gr_co d (fun i => -q i) (gr_co d q M) = M := by
  funext i j
  unfold gr_co
  dsimp only
  rw [h]; grind
theorem gr_ro_d1 {c : Int} {d : Nat} {q : Nat → Int} {M : Nat → Nat → Int} (h : gr_d1 c M) : gr_d1 c (gr_ro d q M) := fun i j => gv_ds (h i j) (gv_dm _ (h d j))
theorem gr_ro_d2 {c : Int} {d : Nat} {q : Nat → Int} {M : Nat → Nat → Int} (h : gr_d2 c M) : gr_d2 c (gr_ro d q M) := fun i k j l => by
  rw [gr_ro2]; exact gv_ds (gv_ds (h _ _ _ _) (gv_dm _ (h _ _ _ _))) (gv_dm _ (h _ _ _ _))
theorem gr_ro_d3 {c : Int} {d : Nat} {q : Nat → Int} {M : Nat → Nat → Int} (h : gr_d3 c M) : gr_d3 c (gr_ro d q M) := fun i k p j l m => by
  rw [gr_ro3]; exact gv_ds (gv_ds (gv_ds (h _ _ _ _ _ _) (gv_dm _ (h _ _ _ _ _ _))) (gv_dm _ (h _ _ _ _ _ _))) (gv_dm _ (h _ _ _ _ _ _))
theorem gr_co_d1 {c : Int} {d : Nat} {q : Nat → Int} {M : Nat → Nat → Int} (h : gr_d1 c M) : gr_d1 c (gr_co d q M) := fun i j => gv_ds (h i j) (gv_dm _ (h i d))
theorem gr_co_d2 {c : Int} {d : Nat} {q : Nat → Int} {M : Nat → Nat → Int} (h : gr_d2 c M) : gr_d2 c (gr_co d q M) := fun i k j l => by
  rw [gr_co2]; exact gv_ds (gv_ds (h _ _ _ _) (gv_dm _ (h _ _ _ _))) (gv_dm _ (h _ _ _ _))
theorem gr_co_d3 {c : Int} {d : Nat} {q : Nat → Int} {M : Nat → Nat → Int} (h : gr_d3 c M) : gr_d3 c (gr_co d q M) := fun i k p j l m => by
  rw [gr_co3]; exact gv_ds (gv_ds (gv_ds (h _ _ _ _ _ _) (gv_dm _ (h _ _ _ _ _ _))) (gv_dm _ (h _ _ _ _ _ _))) (gv_dm _ (h _ _ _ _ _ _))
theorem gr_D.ro {d : Nat} {q : Nat → Int} {M : Nat → Nat → Int} (h : q d = 0) : gr_D M (gr_ro d q M) :=
  gr_D.mono (fun _ => gr_ro_d1) (fun _ => gr_ro_d2) (fun _ => gr_ro_d3) (fun c z => by have := gr_ro_d1 (d := d) (q := fun i => -q i) z; rw [gr_ro_b h] at this; exact this) (fun c z => by have := gr_ro_d2 (d := d) (q := fun i => -q i) z; rw [gr_ro_b h] at this; exact this) (fun c z => by have := gr_ro_d3 (d := d) (q := fun i => -q i) z; rw [gr_ro_b h] at this; exact this)
theorem gr_D.co {d : Nat} {q : Nat → Int} {M : Nat → Nat → Int} (h : q d = 0) : gr_D M (gr_co d q M) :=
  gr_D.mono (fun _ => gr_co_d1) (fun _ => gr_co_d2) (fun _ => gr_co_d3) (fun c z => by have := gr_co_d1 (d := d) (q := fun i => -q i) z; rw [gr_co_b h] at this; exact this) (fun c z => by have := gr_co_d2 (d := d) (q := fun i => -q i) z; rw [gr_co_b h] at this; exact this) (fun c z => by have := gr_co_d3 (d := d) (q := fun i => -q i) z; rw [gr_co_b h] at this; exact this)
/-- rows that span the same -/
theorem gr_D.sp {n m : Nat} {X Y : Nat → Nat → Int} (h1 : ∀ i, i < n → mt_sp m Y (X i)) (h2 : ∀ i, i < m → mt_sp n X (Y i)) (z1 : ∀ i j, n ≤ i → X i j = 0) (z2 : ∀ i j, m ≤ i → Y i j = 0) : gr_D X Y := by
  have a1 : ∀ i, mt_sp m Y (X i) := fun i => by
    rcases Nat.lt_or_ge i n with h | h
    · exact h1 i h
    · exact mt_sp.zero.cg (fun j => z1 i j h)
  have a2 : ∀ i, mt_sp n X (Y i) := fun i => by
    rcases Nat.lt_or_ge i m with h | h
    · exact h2 i h
    · exact mt_sp.zero.cg (fun j => z2 i j h)
  have one : ∀ {N : Nat} {Z : Nat → Nat → Int} {u : Nat → Int} {c : Int} (j : Nat), (∀ i j, c ∣ Z i j) → mt_sp N Z u → c ∣ u j := by
    intro N Z u c j h hu
    obtain ⟨d, hd⟩ := hu
    rw [hd j]; exact gv_ss (fun i _ => gv_dm _ (h i j))
  exact gr_D.mono (fun c h i j => one j h (a2 i)) (fun c h i k j l => gv2_sp (fun i k _ _ => h i k j l) (a2 i) (a2 k)) (fun c h i k p j l m => gv3_sp (fun i k p _ _ _ => h i k p j l m) (a2 i) (a2 k) (a2 p))
    (fun c h i j => one j h (a1 i)) (fun c h i k j l => gv2_sp (fun i k _ _ => h i k j l) (a1 i) (a1 k)) (fun c h i k p j l m => gv3_sp (fun i k p _ _ _ => h i k p j l m) (a1 i) (a1 k) (a1 p))

/-! ===== how far a grid's numbers go in rounds ===== -/
def gr_a (d : Nat) (M : Nat → Nat → Int) (i : Nat) : Int := if i = d then M d d else (M i d).tmod (M d d)
def gr_b (d : Nat) (M : Nat → Nat → Int) (j : Nat) : Int := if j = d then M d d else (M d j).tmod (M d d)
theorem gr_al {d i : Nat} {M : Nat → Nat → Int} (h0 : M d d ≠ 0) : (gr_a d M i).natAbs ≤ (M d d).natAbs := by
  unfold gr_a
  split
  · exact Nat.le_refl _
  · have := mt_tml (x := M i d) h0; omega
theorem gr_bl {d j : Nat} {M : Nat → Nat → Int} (h0 : M d d ≠ 0) : (gr_b d M j).natAbs ≤ (M d d).natAbs := by
  unfold gr_b
  split
  · exact Nat.le_refl _
  · have := mt_tml (x := M d j) h0; omega
/-- so much of a row is taken -/
theorem gr_aq {d i : Nat} {M : Nat → Nat → Int} (hi : d ≤ i) : M i d = gr_a d M i + gr_q d M i * M d d := by
  unfold gr_a gr_q
  by_cases c : i = d
  · subst c; rw [if_pos rfl, if_neg (Nat.lt_irrefl _)]; omega
  · rw [if_neg c, if_pos (by omega), ← mt_tm]; omega
theorem gr_bp {d j : Nat} {M : Nat → Nat → Int} (hj : d ≤ j) : M d j = gr_b d M j + gr_p d M j * M d d := by
  unfold gr_b gr_p
  by_cases c : j = d
  · subst c; rw [if_pos rfl, if_neg (Nat.lt_irrefl _)]; omega
  · rw [if_neg c, if_pos (by omega), ← mt_tm]; omega
theorem gr_c1 {d i j : Nat} {M : Nat → Nat → Int} (hi : d ≤ i) (hj : d ≤ j) : M d d * gr_cl d M i j = gv2 (M d) (M i) d j + gr_a d M i * gr_b d M j := by
  have key : ∀ x y z v a b p q : Int, y = a + q * v → z = b + p * v → v * ((x - q * z) - p * (y - q * v)) = v * x - z * y + a * b := by
    intro x y z v a b p q h1 h2
    subst h1; subst h2
    grind
  exact key (M i j) (M i d) (M d j) (M d d) (gr_a d M i) (gr_b d M j) (gr_p d M j) (gr_q d M i) (gr_aq hi) (gr_bp hj)
theorem gr_syl (v xi xk yj yl aij akl ail akj : Int) : (v * aij - yj * xi) * (v * akl - yl * xk) - (v * ail - yl * xi) * (v * akj - yj * xk) = v * (v * (aij * akl - ail * akj) - yj * (xi * akl - ail * xk) + yl * (xi * akj - aij * xk)) := by grind
theorem gr_c2 {d i k j l : Nat} {M : Nat → Nat → Int} (hi : d ≤ i) (hk : d ≤ k) (hj : d ≤ j) (hl : d ≤ l) : M d d * M d d * gv2 (gr_cl d M i) (gr_cl d M k) j l = M d d * gv3 (M d) (M i) (M k) d j l + (gv2 (M d) (M i) d j * (gr_a d M k * gr_b d M l) + gv2 (M d) (M k) d l * (gr_a d M i * gr_b d M j) - gv2 (M d) (M i) d l * (gr_a d M k * gr_b d M j) - gv2 (M d) (M k) d j * (gr_a d M i * gr_b d M l)) := by
  have e1 := gr_c1 (M := M) hi hj
  have e2 := gr_c1 (M := M) hk hl
  have e3 := gr_c1 (M := M) hi hl
  have e4 := gr_c1 (M := M) hk hj
  have es : gv2 (M d) (M i) d j * gv2 (M d) (M k) d l - gv2 (M d) (M i) d l * gv2 (M d) (M k) d j = M d d * gv3 (M d) (M i) (M k) d j l := by
    have := gr_syl (M d d) (M i d) (M k d) (M d j) (M d l) (M i j) (M k l) (M i l) (M k j)
    unfold gv3 gv2
    exact this
  show M d d * M d d * (gr_cl d M i j * gr_cl d M k l - gr_cl d M i l * gr_cl d M k j) = _
  have e5 : M d d * M d d * (gr_cl d M i j * gr_cl d M k l - gr_cl d M i l * gr_cl d M k j) = (M d d * gr_cl d M i j) * (M d d * gr_cl d M k l) - (M d d * gr_cl d M i l) * (M d d * gr_cl d M k j) := by
    generalize M d d = v
    grind
  rw [e5, e1, e2, e3, e4, ← es]
  generalize gv2 (M d) (M i) d j = m1
  generalize gv2 (M d) (M k) d l = m2
  generalize gv2 (M d) (M i) d l = m3
  generalize gv2 (M d) (M k) d j = m4
  generalize gr_a d M i = a1
  generalize gr_a d M k = a2
  generalize gr_b d M j = b1
  generalize gr_b d M l = b2
  grind
theorem gr_plu (x1 x2 x3 x4 y1 y2 y3 y4 z1 z2 z3 z4 : Int) : x1 * (x2 * (y3 * z4 - z3 * y4) - y2 * (x3 * z4 - z3 * x4) + z2 * (x3 * y4 - y3 * x4)) = x2 * (x1 * (y3 * z4 - z3 * y4) - y1 * (x3 * z4 - z3 * x4) + z1 * (x3 * y4 - y3 * x4)) + x3 * (x2 * (y1 * z4 - z1 * y4) - y2 * (x1 * z4 - z1 * x4) + z2 * (x1 * y4 - y1 * x4)) + x4 * (x2 * (y3 * z1 - z3 * y1) - y2 * (x3 * z1 - z3 * x1) + z2 * (x3 * y1 - y3 * x1)) := by grind
theorem gr_c3 {d i k p l m : Nat} {M : Nat → Nat → Int} (hi : d ≤ i) (hk : d ≤ k) (hp : d ≤ p) : M d d * gv3 (gr_cl d M i) (gr_cl d M k) (gr_cl d M p) d l m = gr_a d M i * gv3 (M d) (M k) (M p) d l m + gr_a d M k * gv3 (M i) (M d) (M p) d l m + gr_a d M p * gv3 (M i) (M k) (M d) d l m := by
  have e1 : gv3 (gr_cl d M i) (gr_cl d M k) (gr_cl d M p) d l m = gv3 (gr_ro d (gr_q d M) M i) (gr_ro d (gr_q d M) M k) (gr_ro d (gr_q d M) M p) d l m := by
    show gv3 (gr_co d (gr_p d M) _ i) (gr_co d (gr_p d M) _ k) (gr_co d (gr_p d M) _ p) d l m = _
    rw [gr_co3, gv3_zc, gv3_zc3, show gr_p d M d = 0 from if_neg (Nat.lt_irrefl d)]
    omega
  have e2 := gr_ro3 d (gr_q d M) M i k p d l m
  have e3 : M d d * gv3 (M i) (M k) (M p) d l m = M i d * gv3 (M d) (M k) (M p) d l m + M k d * gv3 (M i) (M d) (M p) d l m + M p d * gv3 (M i) (M k) (M d) d l m := by
    have := gr_plu (M d d) (M i d) (M k d) (M p d) (M d l) (M i l) (M k l) (M p l) (M d m) (M i m) (M k m) (M p m)
    unfold gv3 gv2
    exact this
  rw [e1, e2]
  have a1 := gr_aq (M := M) hi
  have a2 := gr_aq (M := M) hk
  have a3 := gr_aq (M := M) hp
  generalize gv3 (M i) (M k) (M p) d l m = t0 at *
  generalize gv3 (M d) (M k) (M p) d l m = t1 at *
  generalize gv3 (M i) (M d) (M p) d l m = t2 at *
  generalize gv3 (M i) (M k) (M d) d l m = t3 at *
  rw [a1, a2, a3] at e3
  generalize gr_a d M i = x1 at *
  generalize gr_a d M k = x2 at *
  generalize gr_a d M p = x3 at *
  generalize gr_q d M i = y1 at *
  generalize gr_q d M k = y2 at *
  generalize gr_q d M p = y3 at *
  generalize M d d = v at *
  grind
theorem gr_c2d {d i k l : Nat} {M : Nat → Nat → Int} (hi : d ≤ i) (hk : d ≤ k) : M d d * gv2 (gr_cl d M i) (gr_cl d M k) d l = gr_a d M i * gv2 (M d) (M k) d l + gr_a d M k * gv2 (M i) (M d) d l := by
  have e1 : gv2 (gr_cl d M i) (gr_cl d M k) d l = gv2 (gr_ro d (gr_q d M) M i) (gr_ro d (gr_q d M) M k) d l := by
    show gv2 (gr_co d (gr_p d M) _ i) (gr_co d (gr_p d M) _ k) d l = _
    rw [gr_co2, gv2_zc, show gr_p d M d = 0 from if_neg (Nat.lt_irrefl d)]
    omega
  have e2 := gr_ro2 d (gr_q d M) M i k d l
  have e3 : M d d * gv2 (M i) (M k) d l = M i d * gv2 (M d) (M k) d l + M k d * gv2 (M i) (M d) d l := by unfold gv2; grind
  rw [e1, e2]
  have a1 := gr_aq (M := M) hi
  have a2 := gr_aq (M := M) hk
  generalize gv2 (M i) (M k) d l = t0 at *
  generalize gv2 (M d) (M k) d l = t1 at *
  generalize gv2 (M i) (M d) d l = t2 at *
  rw [a1, a2] at e3
  generalize gr_a d M i = x1 at *
  generalize gr_a d M k = x2 at *
  generalize gr_q d M i = y1 at *
  generalize gr_q d M k = y2 at *
  generalize M d d = v at *
  grind
/-! bounds -/
theorem gr_n3 (a b : Int) : (a * b).natAbs = a.natAbs * b.natAbs := Int.natAbs_mul a b
theorem gr_dv {v x B : Nat} (h : 0 < v) (e : v * x ≤ v * B) : x ≤ B := Nat.le_of_mul_le_mul_left e h
theorem gr_E {d i j W : Nat} {M : Nat → Nat → Int} (h0 : M d d ≠ 0) (hi : d ≤ i) (hj : d ≤ j) (hW : (gv2 (M d) (M i) d j).natAbs ≤ W) : (gr_cl d M i j).natAbs ≤ W + (M d d).natAbs := by
  have e1 := congrArg Int.natAbs (gr_c1 (M := M) hi hj)
  rw [gr_n3] at e1
  have e2 := Int.natAbs_add_le (gv2 (M d) (M i) d j) (gr_a d M i * gr_b d M j)
  rw [gr_n3 (gr_a d M i)] at e2
  have e3 := Nat.mul_le_mul (gr_al (i := i) h0) (gr_bl (j := j) h0)
  have hv : 0 < (M d d).natAbs := by omega
  have e4 : (M d d).natAbs * (W + (M d d).natAbs) = (M d d).natAbs * W + (M d d).natAbs * (M d d).natAbs := Nat.mul_add _ _ _
  have e5 : W ≤ (M d d).natAbs * W := Nat.le_mul_of_pos_left _ hv
  exact gr_dv hv (by omega)
theorem gr_m4 {x a b : Int} {W v : Nat} (h : x.natAbs ≤ W) (ha : a.natAbs ≤ v) (hb : b.natAbs ≤ v) : (x * (a * b)).natAbs ≤ v * v * W := by
  rw [gr_n3, gr_n3, Nat.mul_comm]
  exact Nat.mul_le_mul (Nat.mul_le_mul ha hb) h
theorem gr_2 {d i k j l W V : Nat} {M : Nat → Nat → Int} (h0 : M d d ≠ 0) (hi : d ≤ i) (hk : d ≤ k) (hj : d ≤ j) (hl : d ≤ l) (hW : ∀ i j, d ≤ i → d ≤ j → (gv2 (M d) (M i) d j).natAbs ≤ W) (hV : (gv3 (M d) (M i) (M k) d j l).natAbs ≤ V) : (gv2 (gr_cl d M i) (gr_cl d M k) j l).natAbs ≤ V + 4 * W := by
  have e1 := congrArg Int.natAbs (gr_c2 (M := M) hi hk hj hl)
  rw [gr_n3, gr_n3 (M d d) (M d d)] at e1
  have hv : 0 < (M d d).natAbs := by omega
  have b1 := gr_m4 (hW i j hi hj) (gr_al (i := k) h0) (gr_bl (j := l) h0)
  have b2 := gr_m4 (hW k l hk hl) (gr_al (i := i) h0) (gr_bl (j := j) h0)
  have b3 := gr_m4 (hW i l hi hl) (gr_al (i := k) h0) (gr_bl (j := j) h0)
  have b4 := gr_m4 (hW k j hk hj) (gr_al (i := i) h0) (gr_bl (j := l) h0)
  generalize gv2 (M d) (M i) d j * (gr_a d M k * gr_b d M l) = p1 at *
  generalize gv2 (M d) (M k) d l * (gr_a d M i * gr_b d M j) = p2 at *
  generalize gv2 (M d) (M i) d l * (gr_a d M k * gr_b d M j) = p3 at *
  generalize gv2 (M d) (M k) d j * (gr_a d M i * gr_b d M l) = p4 at *
  have b5 : (M d d * gv3 (M d) (M i) (M k) d j l).natAbs ≤ (M d d).natAbs * V := by rw [gr_n3]; exact Nat.mul_le_mul_left _ hV
  generalize M d d * gv3 (M d) (M i) (M k) d j l = p5 at *
  have b6 : (M d d).natAbs * V ≤ (M d d).natAbs * (M d d).natAbs * V := Nat.mul_le_mul_right _ (Nat.le_mul_of_pos_left _ hv)
  have e4 : (M d d).natAbs * (M d d).natAbs * (V + 4 * W) = (M d d).natAbs * (M d d).natAbs * V + 4 * ((M d d).natAbs * (M d d).natAbs * W) := by rw [Nat.mul_add]; congr 1; ac_rfl
  generalize hvv : (M d d).natAbs * (M d d).natAbs = vv at *
  have hvv0 : 0 < vv := by rw [← hvv]; exact Nat.mul_pos hv hv
  refine gr_dv hvv0 ?_
  rw [e1, e4]
  omega
theorem gr_3 {d i k p l m V : Nat} {M : Nat → Nat → Int} (h0 : M d d ≠ 0) (hi : d ≤ i) (hk : d ≤ k) (hp : d ≤ p) (hV : ∀ i k p, (gv3 (M i) (M k) (M p) d l m).natAbs ≤ V) : (gv3 (gr_cl d M i) (gr_cl d M k) (gr_cl d M p) d l m).natAbs ≤ 3 * V := by
  have e1 := congrArg Int.natAbs (gr_c3 (M := M) (l := l) (m := m) hi hk hp)
  rw [gr_n3] at e1
  have hv : 0 < (M d d).natAbs := by omega
  have b1 : (gr_a d M i * gv3 (M d) (M k) (M p) d l m).natAbs ≤ (M d d).natAbs * V := by rw [gr_n3]; exact Nat.mul_le_mul (gr_al h0) (hV _ _ _)
  have b2 : (gr_a d M k * gv3 (M i) (M d) (M p) d l m).natAbs ≤ (M d d).natAbs * V := by rw [gr_n3]; exact Nat.mul_le_mul (gr_al h0) (hV _ _ _)
  have b3 : (gr_a d M p * gv3 (M i) (M k) (M d) d l m).natAbs ≤ (M d d).natAbs * V := by rw [gr_n3]; exact Nat.mul_le_mul (gr_al h0) (hV _ _ _)
  generalize gr_a d M i * gv3 (M d) (M k) (M p) d l m = p1 at *
  generalize gr_a d M k * gv3 (M i) (M d) (M p) d l m = p2 at *
  generalize gr_a d M p * gv3 (M i) (M k) (M d) d l m = p3 at *
  have e4 : (M d d).natAbs * (3 * V) = 3 * ((M d d).natAbs * V) := by ac_rfl
  refine gr_dv hv ?_
  rw [e1, e4]
  omega
/-- what two rows lose by a third: not more than the three had -/
theorem gr_sgn {a x v A : Int} (ha : a = x.tmod v) : (0 < a * A → 0 < x * A) ∧ (a * A < 0 → x * A < 0) := by
  have h1 : 0 < a → 0 < x := fun h => by
    apply Classical.byContradiction
    intro hn
    have := Int.tmod_nonneg v (show 0 ≤ -x by omega)
    rw [Int.neg_tmod] at this
    omega
  have h2 : a < 0 → x < 0 := fun h => by
    apply Classical.byContradiction
    intro hn
    have := Int.tmod_nonneg v (show 0 ≤ x by omega)
    omega
  rcases Int.lt_trichotomy a 0 with c | c | c
  · have hx := h2 c
    rcases Int.lt_trichotomy A 0 with d | d | d
    · exact ⟨fun _ => Int.mul_pos_of_neg_of_neg hx d, fun h => by have := Int.mul_pos_of_neg_of_neg c d; omega⟩
    · subst d; simp
    · exact ⟨fun h => by have := Int.mul_neg_of_neg_of_pos c d; omega, fun _ => Int.mul_neg_of_neg_of_pos hx d⟩
  · subst c; simp
  · have hx := h1 c
    rcases Int.lt_trichotomy A 0 with d | d | d
    · exact ⟨fun h => by have := Int.mul_neg_of_pos_of_neg c d; omega, fun _ => Int.mul_neg_of_pos_of_neg hx d⟩
    · subst d; simp
    · exact ⟨fun _ => Int.mul_pos hx d, fun h => by have := Int.mul_pos c d; omega⟩
theorem gr_tri {v x y a b A B u : Int} {W : Nat} (hv : v ≠ 0) (ha : a = x.tmod v) (hb : b = y.tmod v) (hx : x ≠ 0 → v.natAbs ≤ x.natAbs) (hy : y ≠ 0 → v.natAbs ≤ y.natAbs) (e : x * A + y * B = v * u) (hA : A.natAbs ≤ W) (hB : B.natAbs ≤ W) (hu : u.natAbs ≤ W) : (a * A + b * B).natAbs ≤ v.natAbs * W := by
  have la : a.natAbs ≤ v.natAbs := by rw [ha]; have := mt_tml (x := x) hv; omega
  have lb : b.natAbs ≤ v.natAbs := by rw [hb]; have := mt_tml (x := y) hv; omega
  have m1 : (a * A).natAbs ≤ v.natAbs * A.natAbs := by rw [gr_n3]; exact Nat.mul_le_mul_right _ la
  have m2 : (b * B).natAbs ≤ v.natAbs * B.natAbs := by rw [gr_n3]; exact Nat.mul_le_mul_right _ lb
  have w1 : v.natAbs * A.natAbs ≤ v.natAbs * W := Nat.mul_le_mul_left _ hA
  have w2 : v.natAbs * B.natAbs ≤ v.natAbs * W := Nat.mul_le_mul_left _ hB
  have w3 : v.natAbs * u.natAbs ≤ v.natAbs * W := Nat.mul_le_mul_left _ hu
  have s1 := gr_sgn (A := A) ha
  have s2 := gr_sgn (A := B) hb
  have e2 := congrArg Int.natAbs e
  rw [gr_n3 v u] at e2
  have n1 : a * A ≠ 0 → v.natAbs * A.natAbs ≤ (x * A).natAbs := fun h => by
    rw [gr_n3]
    refine Nat.mul_le_mul_right _ (hx (fun z => h ?_))
    rw [ha, z, Int.zero_tmod, Int.zero_mul]
  have n2 : b * B ≠ 0 → v.natAbs * B.natAbs ≤ (y * B).natAbs := fun h => by
    rw [gr_n3]
    refine Nat.mul_le_mul_right _ (hy (fun z => h ?_))
    rw [hb, z, Int.zero_tmod, Int.zero_mul]
  generalize a * A = P at *
  generalize b * B = R at *
  generalize x * A = P' at *
  generalize y * B = R' at *
  generalize v.natAbs * A.natAbs = z1 at *
  generalize v.natAbs * B.natAbs = z2 at *
  generalize v.natAbs * u.natAbs = z3 at *
  generalize v.natAbs * W = z4 at *
  rcases Int.lt_trichotomy P 0 with c | c | c
  · rcases Int.lt_trichotomy R 0 with c2 | c2 | c2
    · have := n1 (by omega); have := n2 (by omega); have := s1.2 c; have := s2.2 c2; omega
    · omega
    · omega
  · omega
  · rcases Int.lt_trichotomy R 0 with c2 | c2 | c2
    · omega
    · omega
    · have := n1 (by omega); have := n2 (by omega); have := s1.1 c; have := s2.1 c2; omega

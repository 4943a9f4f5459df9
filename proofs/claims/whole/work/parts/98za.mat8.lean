/-! ===== how far the numbers go in passes: positive and negative sums ===== -/
theorem mt_tm_sg {x y σ : Int} (hσ : σ = 1 ∨ σ = -1) (h : 0 ≤ σ * x) : 0 ≤ σ * x.tmod y := by
  rcases hσ with rfl | rfl
  · rw [Int.one_mul] at *; exact Int.tmod_nonneg _ h
  · have h1 : 0 ≤ (-x).tmod y := Int.tmod_nonneg _ (by omega)
    rw [Int.neg_tmod] at h1; omega
theorem mt_sq {σ : Int} (hσ : σ = 1 ∨ σ = -1) : σ * σ = 1 := by rcases hσ with rfl | rfl <;> rfl
/-- what is claimed: row r at the end is a sum of the rows at the start -/
def mt_U (S : Nat → Bool) (p N : Nat) (σ : Nat → Int) (X : Nat → Nat → Int) (y : Nat → Int) (c : Int) : Prop := ∃ u : Nat → Int, (∀ j, y j = mt_s (fun i => u i * X i j) N) ∧ (∀ i, u i ≠ 0 → S i = true ∧ X i p ≠ 0) ∧ mt_s (fun i => mt_pp (σ i * u i)) N ≤ c ∧ mt_s (fun i => mt_nn (σ i * u i)) N ≤ c
theorem mt_U1 {S : Nat → Bool} {p N r : Nat} {σ : Nat → Int} {X : Nat → Nat → Int} (hr : r < N) (h1 : S r = true) (h2 : X r p ≠ 0) (hσ : σ r = 1 ∨ σ r = -1) : mt_U S p N σ X (X r) 1 := by
  refine ⟨fun i => if i = r then 1 else 0, fun j => ?_, fun i hi => ?_, ?_, ?_⟩
  · rw [mt_s_one hr (fun i _ hne => by dsimp only; rw [if_neg hne, Int.zero_mul])]
    dsimp only
    rw [if_pos rfl, Int.one_mul]
  · by_cases e : i = r
    · subst e; exact ⟨h1, h2⟩
    · exact absurd (if_neg e) hi
  · rw [mt_s_one hr (fun i _ hne => by dsimp only; rw [if_neg hne, Int.mul_zero]; rfl)]
    dsimp only
    rw [if_pos rfl]
    unfold mt_pp; split <;> omega
  · rw [mt_s_one hr (fun i _ hne => by dsimp only; rw [if_neg hne, Int.mul_zero]; rfl)]
    dsimp only
    rw [if_pos rfl]
    unfold mt_nn; split <;> omega
/-- a row behind one pass -/
theorem mt_U2 {S : Nat → Bool} {p N r b : Nat} {σ : Nat → Int} {X : Nat → Nat → Int} {A : Int} (hr : r < N) (hb : b < N) (h1 : S r = true) (h2 : X r p ≠ 0) (hSb : S b = true) (hb0 : X b p ≠ 0) (hrb : r ≠ b) (hσ : ∀ i, σ i = 1 ∨ σ i = -1) (hp : ∀ i, S i = true → 0 ≤ σ i * X i p ∧ σ i * X i p ≤ A) (hm : (X b p).natAbs ≤ (X r p).natAbs) (hz : mt_ps S p b X r p = 0) : mt_U S p N σ X (mt_ps S p b X r) A := by
  have hdiv : X r p = (X r p).tdiv (X b p) * X b p := by rw [mt_ps_r h1 hrb] at hz; omega
  generalize hq : (X r p).tdiv (X b p) = q at *
  have pr := hp r h1
  have pb := hp b hSb
  have hvb : 1 ≤ σ b * X b p := by
    rcases hσ b with e | e <;> rw [e] at pb ⊢ <;> omega
  have hA1 : 1 ≤ A := by omega
  -- signs
  have eq1 : σ r * X r p = (σ r * σ b * q) * (σ b * X b p) := by
    have := mt_sq (hσ b)
    rw [hdiv]
    have e : σ r * σ b * q * (σ b * X b p) = σ r * (σ b * σ b) * q * X b p := by ac_rfl
    rw [e, this, Int.mul_one]
    ac_rfl
  have hqs : 0 ≤ σ r * σ b * q ∧ σ r * σ b * q ≤ A := by
    constructor
    · apply Classical.byContradiction
      intro hneg
      have h3 : σ r * σ b * q ≤ -1 := by omega
      have h4 := Int.mul_le_mul_of_nonneg_right h3 (by omega : 0 ≤ σ b * X b p)
      rw [← eq1] at h4
      omega
    · apply Classical.byContradiction
      intro hneg
      have h3 : A + 1 ≤ σ r * σ b * q := by omega
      have h4 := Int.mul_le_mul_of_nonneg_left hvb (by omega : 0 ≤ σ r * σ b * q)
      rw [← eq1, Int.mul_one] at h4
      omega
  refine ⟨fun i => if i = r then 1 else if i = b then -q else 0, fun j => ?_, fun i hi => ?_, ?_, ?_⟩
  · rw [mt_s_split hr, mt_s_one hb (fun i hi hne => by
      dsimp only
      by_cases e : i = r
      · rw [if_pos e]
      · rw [if_neg e, if_neg e, if_neg hne, Int.zero_mul])]
    dsimp only
    rw [if_pos rfl, if_neg (fun e => hrb e.symm), if_neg (fun e => hrb e.symm), if_pos rfl, mt_ps_r h1 hrb, hq, Int.neg_mul]
    omega
  · by_cases e : i = r
    · subst e; exact ⟨h1, h2⟩
    · by_cases e2 : i = b
      · subst e2; exact ⟨hSb, hb0⟩
      · exact absurd (by dsimp only; rw [if_neg e, if_neg e2]) hi
  · rw [mt_s_split hr, mt_s_one hb (fun i hi hne => by
      dsimp only
      by_cases e : i = r
      · rw [if_pos e]
      · rw [if_neg e, if_neg e, if_neg hne, Int.mul_zero]; rfl)]
    dsimp only
    rw [if_pos rfl, if_neg (fun e => hrb e.symm), if_neg (fun e => hrb e.symm), if_pos rfl]
    rcases hσ r with e | e <;> rw [e] at hqs ⊢ <;> unfold mt_pp
    · rw [Int.one_mul] at hqs; rw [Int.mul_neg, if_pos (by omega), if_neg (by omega)]; omega
    · have : σ b * -q = -1 * σ b * q := by rw [Int.mul_neg, Int.neg_mul, Int.one_mul, Int.neg_mul]
      rw [this, if_neg (by omega)]; split <;> omega
  · rw [mt_s_split hr, mt_s_one hb (fun i hi hne => by
      dsimp only
      by_cases e : i = r
      · rw [if_pos e]
      · rw [if_neg e, if_neg e, if_neg hne, Int.mul_zero]; rfl)]
    dsimp only
    rw [if_pos rfl, if_neg (fun e => hrb e.symm), if_neg (fun e => hrb e.symm), if_pos rfl]
    rcases hσ r with e | e <;> rw [e] at hqs ⊢ <;> unfold mt_nn
    · rw [Int.one_mul] at hqs; rw [Int.mul_neg, if_neg (by omega)]; split <;> omega
    · have : σ b * -q = -1 * σ b * q := by rw [Int.mul_neg, Int.neg_mul, Int.one_mul, Int.neg_mul]
      rw [this, if_pos (by omega), if_neg (by omega)]; omega
/-- the claim: positive and negative sums are at most the greatest number (all rows but the one that stays), or twice it less what stays -/
theorem mt_tr.U {S : Nat → Bool} {p N : Nat} {σ : Nat → Int} (hS : ∀ r, S r = true → r < N) (hσ : ∀ i, σ i = 1 ∨ σ i = -1) : ∀ {n : Nat} {X Y : Nat → Nat → Int} {b : Nat} {A : Int}, mt_tr S p n X Y b → (∀ i, S i = true → 0 ≤ σ i * X i p ∧ σ i * X i p ≤ A) → ∀ r, S r = true → X r p ≠ 0 → mt_U S p N σ X (Y r) (if r = b then 2 * A - (Y b p).natAbs else A) := by
  intro n
  induction n with
  | zero => exact fun h => h.elim
  | succ n ih =>
    intro X Y b A h hp r hr hr0
    obtain ⟨b0, h1, h2, hmin, h4⟩ := h
    have hb0 := hS b0 h1
    have pb := hp b0 h1
    have hv1 : 1 ≤ σ b0 * X b0 p := by rcases hσ b0 with e | e <;> rw [e] at pb ⊢ <;> omega
    have hvn : ((X b0 p).natAbs : Int) = σ b0 * X b0 p := by rcases hσ b0 with e | e <;> rw [e] at pb ⊢ <;> omega
    have mono : ∀ {y : Nat → Int} {c c' : Int}, mt_U S p N σ X y c → c ≤ c' → mt_U S p N σ X y c' := fun ⟨u, u1, u2, u3, u4⟩ hc => ⟨u, u1, u2, by omega, by omega⟩
    rcases h4 with ⟨hall, rfl, rfl⟩ | ⟨hex, h3⟩
    · by_cases e : r = b
      · subst e
        rw [if_pos rfl, mt_ps_b]
        exact mono (mt_U1 hb0 h1 h2 (hσ r)) (by omega)
      · rw [if_neg e]
        exact mt_U2 (hS r hr) hb0 hr hr0 h1 h2 e hσ hp (hmin r hr hr0) (hall r hr e)
    · have hX1 : ∀ i, S i = true → i ≠ b0 → (mt_ps S p b0 X i p).natAbs < (X b0 p).natAbs := fun i hi hne => by rw [mt_ps_p hi hne]; exact mt_tml h2
      have hp1 : ∀ i, S i = true → 0 ≤ σ i * mt_ps S p b0 X i p ∧ σ i * mt_ps S p b0 X i p ≤ σ b0 * X b0 p := fun i hi => by
        by_cases e : i = b0
        · rw [e, mt_ps_b]; exact ⟨pb.1, Int.le_refl _⟩
        · have z1 := hX1 i hi e
          have z2 : 0 ≤ σ i * mt_ps S p b0 X i p := by rw [mt_ps_p hi e]; exact mt_tm_sg (hσ i) (hp i hi).1
          refine ⟨z2, ?_⟩
          have z3 : σ i * mt_ps S p b0 X i p ≤ ((mt_ps S p b0 X i p).natAbs : Int) := by rcases hσ i with e | e <;> rw [e] <;> omega
          omega
      have hAv : σ b0 * X b0 p + 1 ≤ A := by
        obtain ⟨i, i1, i2, i3⟩ := hex
        have z0 : X i p ≠ 0 := fun e => i3 (by rw [mt_ps_r i1 i2, e, Int.zero_tdiv, Int.zero_mul]; rfl)
        have z1 := hmin i i1 z0
        have z2 := (hp i i1)
        have z3 : ((X i p).natAbs : Int) = σ i * X i p := by rcases hσ i with e | e <;> rw [e] at z2 ⊢ <;> omega
        have z4 : (X i p).natAbs ≠ (X b0 p).natAbs := fun e => i3 (by
          rw [mt_ps_p i1 i2]
          have : (X b0 p) ∣ (X i p) := Int.natAbs_dvd_natAbs.mp (by rw [e]; exact Nat.dvd_refl _)
          exact Int.tmod_eq_zero_of_dvd this)
        omega
      by_cases hz : r ≠ b0 ∧ mt_ps S p b0 X r p = 0
      · obtain ⟨o1, o2⟩ := h3.o r hr hz.2
        rw [if_neg o1, o2]
        exact mt_U2 (hS r hr) hb0 hr hr0 h1 h2 hz.1 hσ hp (hmin r hr hr0) hz.2
      · have hr1 : mt_ps S p b0 X r p ≠ 0 := by
          by_cases e : r = b0
          · rw [e, mt_ps_b]; exact h2
          · exact fun z => hz ⟨e, z⟩
        obtain ⟨w, w1, w2, w3, w4⟩ := ih h3 hp1 r hr hr1
        have w2' : ∀ i, w i ≠ 0 → S i = true := fun i hi => (w2 i hi).1
        have hXi : ∀ i, w i ≠ 0 → X i p ≠ 0 := fun i hi z => by
          by_cases e : i = b0
          · exact h2 (e ▸ z)
          · exact (w2 i hi).2 (by rw [mt_ps_r (w2 i hi).1 e, z, Int.zero_tdiv, Int.zero_mul]; rfl)
        have eu := mt_ps_u (S := S) (p := p) (X := X) hb0 w2'
        generalize hu0 : w b0 - mt_s (fun k => if k = b0 then 0 else w k * (X k p).tdiv (X b0 p)) N = u0 at eu
        -- the numbers with signs
        have hY : ∀ j, Y r j = mt_s (fun i => (if i = b0 then u0 else w i) * X i j) N := fun j => (w1 j).trans (eu j)
        have hsum : mt_s (fun i => (σ i * (if i = b0 then u0 else w i)) * (σ i * X i p)) N = Y r p := by
          rw [hY p]
          exact mt_s_cg (fun i _ => by
            have := mt_sq (hσ i)
            have e : σ i * (if i = b0 then u0 else w i) * (σ i * X i p) = (σ i * σ i) * ((if i = b0 then u0 else w i) * X i p) := by ac_rfl
            rw [e, this, Int.one_mul])
        have K := mt_key (b := b0) (v := σ b0 * X b0 p) (A := A) (τ := fun i => σ i * (if i = b0 then u0 else w i)) (α := fun i => σ i * X i p) hb0 rfl (fun i hi hne ht => by
          have hwi : w i ≠ 0 := fun z => ht (by rw [if_neg hne, z, Int.mul_zero])
          have hSi := w2' i hwi
          have z1 := hmin i hSi (hXi i hwi)
          have z2 := hp i hSi
          have z3 : ((X i p).natAbs : Int) = σ i * X i p := by rcases hσ i with e | e <;> rw [e] at z2 ⊢ <;> omega
          exact ⟨by omega, z2.2⟩) hsum
        have eN : mt_s (fun i => if i = b0 then 0 else mt_nn (σ i * (if i = b0 then u0 else w i))) N ≤ mt_s (fun i => mt_nn (σ i * w i)) N := mt_s_le (fun i _ => by
          by_cases e : i = b0
          · rw [if_pos e]; exact (mt_pn _).2.2.1
          · rw [if_neg e, if_neg e]; exact Int.le_refl _)
        have eP : mt_s (fun i => if i = b0 then 0 else mt_pp (σ i * (if i = b0 then u0 else w i))) N ≤ mt_s (fun i => mt_pp (σ i * w i)) N := mt_s_le (fun i _ => by
          by_cases e : i = b0
          · rw [if_pos e]; exact (mt_pn _).2.1
          · rw [if_neg e, if_neg e]; exact Int.le_refl _)
        have hβ : r ≠ b → Y r p = 0 := fun e => by
          obtain ⟨-, -, t3, -⟩ := h3.end
          exact t3 r hr e
        refine ⟨fun i => if i = b0 then u0 else w i, hY, fun i hi => ?_, ?_⟩
        · by_cases e : i = b0
          · rw [e]; exact ⟨h1, h2⟩
          · have hi' : w i ≠ 0 := fun z => hi (by dsimp only; rw [if_neg e]; exact z)
            exact ⟨w2' i hi', hXi i hi'⟩
        -- the two sums
        have fin : ∀ c : Int, mt_s (fun i => mt_pp (σ i * w i)) N ≤ c → mt_s (fun i => mt_nn (σ i * w i)) N ≤ c → 0 ≤ A →
            (∀ C : Int, c ≤ C → (∀ x : Int, (σ b0 * X b0 p) * x ≤ ((Y r p).natAbs : Int) + A * c → x ≤ C) → mt_s (fun i => mt_pp (σ i * (if i = b0 then u0 else w i))) N ≤ C ∧ mt_s (fun i => mt_nn (σ i * (if i = b0 then u0 else w i))) N ≤ C) := by
          intro c c1 c2 hA C hC hx
          by_cases hsg : 0 ≤ σ b0 * (if b0 = b0 then u0 else w b0)
          · obtain ⟨k1, k2⟩ := K.1 hsg
            refine ⟨hx _ ?_, by rw [k2]; omega⟩
            have := Int.mul_le_mul_of_nonneg_left (by rw [k2]; omega : mt_s (fun i => mt_nn (σ i * (if i = b0 then u0 else w i))) N ≤ c) hA
            omega
          · obtain ⟨k1, k2⟩ := K.2 (by omega)
            refine ⟨by rw [k2]; omega, hx _ ?_⟩
            have := Int.mul_le_mul_of_nonneg_left (by rw [k2]; omega : mt_s (fun i => mt_pp (σ i * (if i = b0 then u0 else w i))) N ≤ c) hA
            omega
        by_cases erb : r = b
        · rw [if_pos erb] at w3 w4 ⊢
          refine fin _ w3 w4 (by omega) _ (by omega) (fun x hx => ?_)
          rw [erb] at hx
          have hβ0 : (0 : Int) ≤ ((Y b p).natAbs : Int) := Int.natCast_nonneg _
          generalize ((Y b p).natAbs : Int) = β at *
          generalize σ b0 * X b0 p = v at *
          -- v x <= β + A (2 v - β), A >= v + 1
          apply Classical.byContradiction
          intro hno
          have h1 := Int.mul_le_mul_of_nonneg_left (by omega : 2 * A - β + 1 ≤ x) (by omega : 0 ≤ v)
          have q1 : v * (2 * A) = 2 * (v * A) := by ac_rfl
          have q2 : A * (2 * v) = 2 * (v * A) := by ac_rfl
          have e1 : v * (2 * A - β + 1) = 2 * (v * A) - v * β + v := by rw [Int.mul_add, Int.mul_sub, Int.mul_one, q1]
          have e2 : A * (2 * v - β) = 2 * (v * A) - A * β := by rw [Int.mul_sub, q2]
          have h2 := Int.mul_le_mul_of_nonneg_right hAv (by omega : 0 ≤ β)
          rw [Int.add_mul, Int.one_mul] at h2
          omega
        · rw [if_neg erb] at w3 w4 ⊢
          refine fin _ w3 w4 (by omega) _ (by omega) (fun x hx => ?_)
          rw [hβ erb] at hx
          rw [Int.mul_comm A] at hx
          exact Int.le_of_mul_le_mul_left (by simpa using hx) (by omega)

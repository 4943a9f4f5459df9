/-! ===== how far the numbers go in passes: by the first row taken ===== -/
theorem mt_s_abs {f : Nat → Int} {n : Nat} : ((mt_s f n).natAbs : Int) ≤ mt_s (fun i => ((f i).natAbs : Int)) n := by
  induction n with
  | zero => exact Int.le_refl _
  | succ n ih => show ((mt_s f n + f n).natAbs : Int) ≤ mt_s _ n + ((f n).natAbs : Int); omega
/-- what stays is at most the first number -/
theorem mt_tr.le {S : Nat → Bool} {p : Nat} : ∀ {n : Nat} {X Y : Nat → Nat → Int} {b : Nat}, mt_tr S p n X Y b → ∀ r, S r = true → X r p ≠ 0 → (Y b p).natAbs ≤ (X r p).natAbs := by
  intro n
  induction n with
  | zero => exact fun h => h.elim
  | succ n ih =>
    intro X Y b h r hr h0
    obtain ⟨b0, h1, h2, h3, h4⟩ := h
    have hm := h3 r hr h0
    rcases h4 with ⟨-, rfl, rfl⟩ | ⟨-, h5⟩
    · rw [mt_ps_b]; exact hm
    · have := ih h5 b0 h1 (by rw [mt_ps_b]; exact h2)
      rw [mt_ps_b] at this; omega
theorem mt_sgx (x : Int) : 0 ≤ (if x < 0 then (-1 : Int) else 1) * x ∧ (if x < 0 then (-1 : Int) else 1) * x ≤ (x.natAbs : Int) := by split <;> omega
theorem mt_na1 {x : Int} (h : x ≠ 0) : (1 : Int) ≤ (x.natAbs : Int) := by omega
theorem mt_tr.first {S : Nat → Bool} {p N : Nat} (hS : ∀ r, S r = true → r < N) {n : Nat} {X Y : Nat → Nat → Int} {b : Nat} (h : mt_tr S p n X Y b) :
    ∃ b0, S b0 = true ∧ X b0 p ≠ 0 ∧ (∀ r, S r = true → X r p ≠ 0 → (X b0 p).natAbs ≤ (X r p).natAbs) ∧ ∀ r, S r = true → X r p ≠ 0 → ∃ w : Nat → Int, (∀ i, w i ≠ 0 → S i = true ∧ X i p ≠ 0) ∧ (∀ j, X b0 p * Y r j = Y r p * X b0 j + mt_s (fun i => w i * (X b0 p * X i j - X i p * X b0 j)) N) ∧ mt_s (fun i => ((w i).natAbs : Int)) N ≤ (if r = b then 4 else 2) * ((X b0 p).natAbs : Int) := by
  cases n with
  | zero => exact h.elim
  | succ n =>
    obtain ⟨b0, h1, h2, hmin, h4⟩ := h
    have hb0 := hS b0 h1
    refine ⟨b0, h1, h2, hmin, fun r hr hr0 => ?_⟩
    have hv1 : (1 : Int) ≤ ((X b0 p).natAbs : Int) := mt_na1 (by assumption)
    -- a row behind the first pass
    have one : r ≠ b0 → mt_ps S p b0 X r p = 0 → ∃ w : Nat → Int, (∀ i, w i ≠ 0 → S i = true ∧ X i p ≠ 0) ∧ (∀ j, X b0 p * mt_ps S p b0 X r j = 0 * X b0 j + mt_s (fun i => w i * (X b0 p * X i j - X i p * X b0 j)) N) ∧ mt_s (fun i => ((w i).natAbs : Int)) N ≤ 1 := by
      intro hne hz
      have hdiv : X r p = (X r p).tdiv (X b0 p) * X b0 p := by rw [mt_ps_r hr hne] at hz; omega
      refine ⟨fun i => if i = r then 1 else 0, fun i hi => ?_, fun j => ?_, ?_⟩
      · by_cases e : i = r
        · subst e; exact ⟨hr, hr0⟩
        · exact absurd (if_neg e) hi
      · rw [mt_s_one (hS r hr) (fun i _ hi => by dsimp only; rw [if_neg hi, Int.zero_mul])]
        dsimp only
        rw [if_pos rfl, mt_ps_r hr hne, Int.one_mul, Int.zero_mul, Int.zero_add, Int.mul_sub]
        have : X b0 p * ((X r p).tdiv (X b0 p) * X b0 j) = (X r p).tdiv (X b0 p) * X b0 p * X b0 j := by ac_rfl
        rw [this, ← hdiv]
      · rw [mt_s_one (hS r hr) (fun i _ hi => by dsimp only; rw [if_neg hi]; rfl)]
        dsimp only
        rw [if_pos rfl]; decide
    rcases h4 with ⟨hall, rfl, rfl⟩ | ⟨hex, h3⟩
    · by_cases e : r = b
      · subst e
        refine ⟨fun _ => 0, fun i hi => absurd rfl hi, fun j => ?_, ?_⟩
        · rw [mt_s_0 (fun i _ => Int.zero_mul _), mt_ps_b]; omega
        · have : mt_s (fun i => ((((fun _ => 0) : Nat → Int) i).natAbs : Int)) N = 0 := mt_s_0 (fun i _ => rfl)
          rw [this, if_pos rfl]; omega
      · obtain ⟨w, w1, w2, w3⟩ := one e (hall r hr e)
        exact ⟨w, w1, fun j => by rw [hall r hr e]; exact w2 j, by rw [if_neg e]; omega⟩
    · by_cases hz : r ≠ b0 ∧ mt_ps S p b0 X r p = 0
      · obtain ⟨o1, o2⟩ := h3.o r hr hz.2
        obtain ⟨w, w1, w2, w3⟩ := one hz.1 hz.2
        exact ⟨w, w1, fun j => by rw [o2, hz.2]; exact w2 j, by rw [if_neg o1]; omega⟩
      · have hr1 : mt_ps S p b0 X r p ≠ 0 := by
          by_cases e : r = b0
          · rw [e, mt_ps_b]; exact h2
          · exact fun z => hz ⟨e, z⟩
        have hσ : ∀ i, (fun i => if X i p < 0 then (-1 : Int) else 1) i = 1 ∨ (fun i => if X i p < 0 then (-1 : Int) else 1) i = -1 := fun i => by dsimp only; split <;> simp
        have hp1 : ∀ i, S i = true → 0 ≤ (fun i => if X i p < 0 then (-1 : Int) else 1) i * mt_ps S p b0 X i p ∧ (fun i => if X i p < 0 then (-1 : Int) else 1) i * mt_ps S p b0 X i p ≤ ((X b0 p).natAbs : Int) := fun i hi => by
          have hs : 0 ≤ (fun i => if X i p < 0 then (-1 : Int) else 1) i * X i p := (mt_sgx _).1
          by_cases e : i = b0
          · rw [e, mt_ps_b]; exact mt_sgx _
          · have z2 : 0 ≤ (fun i => if X i p < 0 then (-1 : Int) else 1) i * mt_ps S p b0 X i p := by rw [mt_ps_p hi e]; exact mt_tm_sg (hσ i) hs
            have z1 : (mt_ps S p b0 X i p).natAbs < (X b0 p).natAbs := by rw [mt_ps_p hi e]; exact mt_tml h2
            refine ⟨z2, ?_⟩
            rcases hσ i with e | e <;> rw [e] <;> omega
        obtain ⟨w, w1, w2, w3, w4⟩ := h3.U hS hσ hp1 r hr hr1
        have w2' : ∀ i, w i ≠ 0 → S i = true := fun i hi => (w2 i hi).1
        have eu := mt_ps_u (S := S) (p := p) (X := X) hb0 w2'
        generalize hu0 : w b0 - mt_s (fun k => if k = b0 then 0 else w k * (X k p).tdiv (X b0 p)) N = u0 at eu
        have hY : ∀ j, Y r j = u0 * X b0 j + mt_s (fun i => if i = b0 then 0 else w i * X i j) N := fun j => by
          rw [w1 j, eu j, mt_s_split hb0]
          rw [if_pos rfl]
          congr 1
          exact mt_s_cg (fun i _ => by
            by_cases e : i = b0
            · rw [if_pos e, if_pos e]
            · rw [if_neg e, if_neg e, if_neg e])
        refine ⟨fun i => if i = b0 then 0 else w i, fun i hi => ?_, fun j => ?_, ?_⟩
        · by_cases e : i = b0
          · exact absurd (if_pos e) hi
          · have hi' : w i ≠ 0 := fun z => hi (by dsimp only; rw [if_neg e]; exact z)
            refine ⟨w2' i hi', fun z => (w2 i hi').2 (by rw [mt_ps_r (w2' i hi') e, z, Int.zero_tdiv, Int.zero_mul]; rfl)⟩
        · have e1 : mt_s (fun i => (if i = b0 then 0 else w i) * (X b0 p * X i j - X i p * X b0 j)) N = mt_s (fun i => X b0 p * (if i = b0 then 0 else w i * X i j) + -(X b0 j) * (if i = b0 then 0 else w i * X i p)) N := mt_s_cg (fun i _ => by
            by_cases e : i = b0
            · rw [if_pos e, if_pos e, if_pos e]; simp
            · rw [if_neg e, if_neg e, if_neg e, Int.mul_sub, Int.neg_mul]
              have z1 : w i * (X b0 p * X i j) = X b0 p * (w i * X i j) := by ac_rfl
              have z2 : w i * (X i p * X b0 j) = X b0 j * (w i * X i p) := by ac_rfl
              omega)
          rw [e1, mt_s_add, mt_s_mul, mt_s_mul, hY j, hY p]
          generalize mt_s (fun i => if i = b0 then 0 else w i * X i j) N = a1
          generalize mt_s (fun i => if i = b0 then 0 else w i * X i p) N = a2
          rw [Int.mul_add, Int.add_mul, Int.neg_mul]
          have z1 : X b0 p * (u0 * X b0 j) = u0 * X b0 p * X b0 j := by ac_rfl
          have z2 : X b0 j * a2 = a2 * X b0 j := by ac_rfl
          omega
        · have hle : mt_s (fun i => (((fun i => if i = b0 then 0 else w i) i).natAbs : Int)) N ≤ mt_s (fun i => mt_pp ((fun i => if X i p < 0 then (-1 : Int) else 1) i * w i) + mt_nn ((fun i => if X i p < 0 then (-1 : Int) else 1) i * w i)) N := mt_s_le (fun i _ => by
            have z := mt_pn ((fun i => if X i p < 0 then (-1 : Int) else 1) i * w i)
            have z2 : ((fun i => if X i p < 0 then (-1 : Int) else 1) i * w i).natAbs = (w i).natAbs := by rw [Int.natAbs_mul]; rcases hσ i with e | e <;> rw [e] <;> simp
            rw [z2] at z
            dsimp only at z ⊢
            by_cases e : i = b0
            · rw [if_pos e]; omega
            · rw [if_neg e]; omega)
          rw [mt_s_add] at hle
          by_cases erb : r = b
          · rw [if_pos erb] at w3 w4 ⊢
            have : (0 : Int) ≤ ((Y b p).natAbs : Int) := Int.natCast_nonneg _
            omega
          · rw [if_neg erb] at w3 w4 ⊢; omega
/-- all rows at a place: twice what two rows make together (four times, and the first row's number, for the row that stays) -/
theorem mt_tr.far {S : Nat → Bool} {p N : Nat} (hS : ∀ r, S r = true → r < N) {n : Nat} {X Y : Nat → Nat → Int} {b : Nat} (h : mt_tr S p n X Y b) {j : Nat} {m M : Nat} (hm : ∀ i k, S i = true → S k = true → (X i p * X k j - X k p * X i j).natAbs ≤ m) (hM : ∀ i, S i = true → (X i j).natAbs ≤ M) :
    (Y b j).natAbs ≤ M + 4 * m ∧ ∀ r, S r = true → r ≠ b → (Y r j).natAbs ≤ 2 * m ∨ (X r p = 0 ∧ Y r = X r) := by
  obtain ⟨b0, f1, f2, f3, f4⟩ := h.first hS
  have key : ∀ r, S r = true → X r p ≠ 0 → ∃ c : Int, c ≤ (if r = b then 4 else 2) * ((X b0 p).natAbs : Int) ∧ ((X b0 p).natAbs : Int) * ((Y r j).natAbs : Int) ≤ ((Y r p).natAbs : Int) * M + c * m := by
    intro r hr hr0
    obtain ⟨w, w1, w2, w3⟩ := f4 r hr hr0
    refine ⟨mt_s (fun i => ((w i).natAbs : Int)) N, w3, ?_⟩
    have e1 := congrArg (fun x : Int => (x.natAbs : Int)) (w2 j)
    rw [Int.natAbs_mul] at e1
    have e2 : ((mt_s (fun i => w i * (X b0 p * X i j - X i p * X b0 j)) N).natAbs : Int) ≤ mt_s (fun i => (m : Int) * ((w i).natAbs : Int)) N := Int.le_trans mt_s_abs (mt_s_le (fun i _ => by
      rw [Int.natAbs_mul]
      by_cases z : w i = 0
      · rw [z]; simp
      · have := hm b0 i f1 (w1 i z).1
        have h5 := Nat.mul_le_mul_left (w i).natAbs this
        rw [Nat.mul_comm (w i).natAbs m] at h5
        exact_mod_cast h5))
    rw [mt_s_mul] at e2
    have e3 : ((Y r p * X b0 j).natAbs : Int) ≤ ((Y r p).natAbs : Int) * M := by
      rw [Int.natAbs_mul]
      have := Nat.mul_le_mul_left (Y r p).natAbs (hM b0 f1)
      exact_mod_cast this
    have e4 : (((X b0 p).natAbs * (Y r j).natAbs : Nat) : Int) = ((X b0 p).natAbs : Int) * ((Y r j).natAbs : Int) := by simp
    rw [Int.mul_comm (m : Int)] at e2
    omega
  have hv1 : (1 : Int) ≤ ((X b0 p).natAbs : Int) := mt_na1 (by assumption)
  obtain ⟨t1, t2, t3, t4⟩ := h.end
  constructor
  · have hb0 : X b p ≠ 0 := fun z => by obtain ⟨o1, -⟩ := h.o b t1 z; exact o1 rfl
    obtain ⟨c, c1, c2⟩ := key b t1 hb0
    rw [if_pos rfl] at c1
    have l1 := h.le b0 f1 f2
    have l2 : ((Y b p).natAbs : Int) * M ≤ ((X b0 p).natAbs : Int) * M := Int.mul_le_mul_of_nonneg_right (by omega) (Int.natCast_nonneg _)
    have l3 : c * m ≤ 4 * ((X b0 p).natAbs : Int) * m := Int.mul_le_mul_of_nonneg_right c1 (Int.natCast_nonneg _)
    have l4 : ((X b0 p).natAbs : Int) * ((Y b j).natAbs : Int) ≤ ((X b0 p).natAbs : Int) * ((M : Int) + 4 * m) := by
      rw [Int.mul_add]
      have : 4 * ((X b0 p).natAbs : Int) * (m : Int) = ((X b0 p).natAbs : Int) * (4 * m) := by ac_rfl
      omega
    have l5 := Int.le_of_mul_le_mul_left l4 (by omega)
    omega
  · intro r hr hne
    by_cases hr0 : X r p = 0
    · exact Or.inr ⟨hr0, (h.o r hr hr0).2⟩
    · obtain ⟨c, c1, c2⟩ := key r hr hr0
      rw [if_neg hne] at c1
      rw [t3 r hr hne] at c2
      have l3 : c * m ≤ 2 * ((X b0 p).natAbs : Int) * m := Int.mul_le_mul_of_nonneg_right c1 (Int.natCast_nonneg _)
      have l4 : ((X b0 p).natAbs : Int) * ((Y r j).natAbs : Int) ≤ ((X b0 p).natAbs : Int) * (2 * m) := by
        have : 2 * ((X b0 p).natAbs : Int) * (m : Int) = ((X b0 p).natAbs : Int) * (2 * m) := by ac_rfl
        simp at c2
        omega
      have l5 := Int.le_of_mul_le_mul_left l4 (by omega)
      exact Or.inl (by omega)

/-! ===== how far the numbers go in passes: so often each row is taken ===== -/
def mt_pp (x : Int) : Int := if 0 < x then x else 0
def mt_nn (x : Int) : Int := if x < 0 then -x else 0
theorem mt_pn (x : Int) : x = mt_pp x - mt_nn x ∧ 0 ≤ mt_pp x ∧ 0 ≤ mt_nn x ∧ (x.natAbs : Int) = mt_pp x + mt_nn x := by unfold mt_pp mt_nn; split <;> split <;> omega
theorem mt_s_le {f g : Nat → Int} : ∀ {n : Nat}, (∀ i, i < n → f i ≤ g i) → mt_s f n ≤ mt_s g n := by
  intro n
  induction n with
  | zero => exact fun _ => Int.le_refl _
  | succ n ih => intro h; have h1 := ih (fun i hi => h i (by omega)); have h2 := h n (by omega); show mt_s f n + f n ≤ mt_s g n + g n; omega
theorem mt_s_split {f : Nat → Int} {b n : Nat} (hb : b < n) : mt_s f n = f b + mt_s (fun i => if i = b then 0 else f i) n := by
  have e : mt_s f n = mt_s (fun i => (if i = b then f b else 0) + (if i = b then 0 else f i)) n := mt_s_cg (fun i _ => by split <;> simp_all)
  rw [e, mt_s_add, mt_s_one hb (fun i _ hi => if_neg hi), if_pos rfl]
/-- all but one: with signs -/
theorem mt_key {N b : Nat} {v A β : Int} {τ α : Nat → Int} (hb : b < N) (hv : α b = v) (hα : ∀ i, i < N → i ≠ b → τ i ≠ 0 → v ≤ α i ∧ α i ≤ A) (hs : mt_s (fun i => τ i * α i) N = β) :
    (0 ≤ τ b → v * mt_s (fun i => mt_pp (τ i)) N ≤ β + A * mt_s (fun i => mt_nn (τ i)) N ∧ mt_s (fun i => mt_nn (τ i)) N = mt_s (fun i => if i = b then 0 else mt_nn (τ i)) N) ∧
    (τ b ≤ 0 → v * mt_s (fun i => mt_nn (τ i)) N ≤ -β + A * mt_s (fun i => mt_pp (τ i)) N ∧ mt_s (fun i => mt_pp (τ i)) N = mt_s (fun i => if i = b then 0 else mt_pp (τ i)) N) := by
  have e1 := mt_s_split (f := fun i => mt_pp (τ i)) hb
  have e2 := mt_s_split (f := fun i => mt_nn (τ i)) hb
  have e3 := mt_s_split (f := fun i => τ i * α i) hb
  rw [hs, hv] at e3
  refine ⟨fun h0 => ?_, fun h0 => ?_⟩
  · have z1 : mt_pp (τ b) = τ b ∧ mt_nn (τ b) = 0 := by unfold mt_pp mt_nn; split <;> split <;> omega
    rw [z1.1] at e1
    rw [z1.2, Int.zero_add] at e2
    refine ⟨?_, e2⟩
    have h1 : mt_s (fun i => v * (if i = b then 0 else mt_pp (τ i)) + -(A * (if i = b then 0 else mt_nn (τ i)))) N ≤ mt_s (fun i => if i = b then 0 else τ i * α i) N := mt_s_le (fun i hi => by
      by_cases e : i = b
      · rw [if_pos e, if_pos e, if_pos e]; omega
      · rw [if_neg e, if_neg e, if_neg e]
        by_cases t0 : τ i = 0
        · rw [t0]; have : mt_pp 0 = 0 := rfl
          have : mt_nn 0 = 0 := rfl
          simp [*]
        · obtain ⟨a1, a2⟩ := hα i hi e t0
          unfold mt_pp mt_nn
          by_cases c : 0 < τ i
          · rw [if_pos c, if_neg (by omega)]
            have := Int.mul_le_mul_of_nonneg_right a1 (by omega : 0 ≤ τ i)
            rw [Int.mul_comm (τ i)]; omega
          · rw [if_neg c, if_pos (by omega)]
            have := Int.mul_le_mul_of_nonneg_right a2 (by omega : 0 ≤ -τ i)
            have z3 : τ i * α i = -(α i * -τ i) := by rw [Int.mul_neg, Int.neg_neg, Int.mul_comm]
            rw [z3]; omega)
    rw [mt_s_add, mt_s_mul] at h1
    have e4 : mt_s (fun i => -(A * (if i = b then 0 else mt_nn (τ i)))) N = -(A * mt_s (fun i => if i = b then 0 else mt_nn (τ i)) N) := by
      rw [← mt_s_mul]
      have := mt_s_mul (-1) (fun i => A * (if i = b then 0 else mt_nn (τ i))) N
      rw [Int.neg_mul, Int.one_mul] at this
      rw [← this]; exact mt_s_cg (fun i _ => by rw [Int.neg_mul, Int.one_mul])
    rw [e4] at h1
    rw [e1, e2, Int.mul_add, Int.mul_comm v (τ b)]
    omega
  · have z1 : mt_pp (τ b) = 0 ∧ mt_nn (τ b) = -τ b := by unfold mt_pp mt_nn; split <;> split <;> omega
    rw [z1.1, Int.zero_add] at e1
    rw [z1.2] at e2
    refine ⟨?_, e1⟩
    have h1 : mt_s (fun i => if i = b then 0 else τ i * α i) N ≤ mt_s (fun i => A * (if i = b then 0 else mt_pp (τ i)) + -(v * (if i = b then 0 else mt_nn (τ i)))) N := mt_s_le (fun i hi => by
      by_cases e : i = b
      · rw [if_pos e, if_pos e, if_pos e]; omega
      · rw [if_neg e, if_neg e, if_neg e]
        by_cases t0 : τ i = 0
        · rw [t0]; have : mt_pp 0 = 0 := rfl
          have : mt_nn 0 = 0 := rfl
          simp [*]
        · obtain ⟨a1, a2⟩ := hα i hi e t0
          unfold mt_pp mt_nn
          by_cases c : 0 < τ i
          · rw [if_pos c, if_neg (by omega)]
            have := Int.mul_le_mul_of_nonneg_right a2 (by omega : 0 ≤ τ i)
            rw [Int.mul_comm (τ i)]; omega
          · rw [if_neg c, if_pos (by omega)]
            have := Int.mul_le_mul_of_nonneg_right a1 (by omega : 0 ≤ -τ i)
            have z3 : τ i * α i = -(α i * -τ i) := by rw [Int.mul_neg, Int.neg_neg, Int.mul_comm]
            rw [z3]; omega)
    rw [mt_s_add, mt_s_mul] at h1
    have e4 : mt_s (fun i => -(v * (if i = b then 0 else mt_nn (τ i)))) N = -(v * mt_s (fun i => if i = b then 0 else mt_nn (τ i)) N) := by
      rw [← mt_s_mul]
      have := mt_s_mul (-1) (fun i => v * (if i = b then 0 else mt_nn (τ i))) N
      rw [Int.neg_mul, Int.one_mul] at this
      rw [← this]; exact mt_s_cg (fun i _ => by rw [Int.neg_mul, Int.one_mul])
    rw [e4] at h1
    rw [e1, e2, Int.mul_add, Int.mul_neg, Int.mul_comm v (τ b)]
    omega
/-- a row without a number at the place stays as it is -/
theorem mt_tr.o {S : Nat → Bool} {p : Nat} : ∀ {n : Nat} {X Y : Nat → Nat → Int} {b : Nat}, mt_tr S p n X Y b → ∀ r, S r = true → X r p = 0 → r ≠ b ∧ Y r = X r := by
  intro n
  induction n with
  | zero => exact fun h => h.elim
  | succ n ih =>
    intro X Y b h r hr h0
    obtain ⟨b0, h1, h2, -, h4⟩ := h
    have hb : r ≠ b0 := fun e => h2 (e ▸ h0)
    have hX : mt_ps S p b0 X r = X r := by
      funext j; rw [mt_ps_r hr hb, h0, Int.zero_tdiv, Int.zero_mul]; omega
    rcases h4 with ⟨-, rfl, rfl⟩ | ⟨-, h3⟩
    · exact ⟨hb, hX⟩
    · obtain ⟨a1, a2⟩ := ih h3 r hr (by rw [hX]; exact h0)
      exact ⟨a1, a2.trans hX⟩
/-- what a sum of the rows behind a pass is of the rows ahead of it -/
theorem mt_ps_u {S : Nat → Bool} {p b N : Nat} {X : Nat → Nat → Int} {w : Nat → Int} (hb : b < N) (hw : ∀ i, w i ≠ 0 → S i = true) : ∀ j, mt_s (fun i => w i * mt_ps S p b X i j) N = mt_s (fun i => (if i = b then w b - mt_s (fun k => if k = b then 0 else w k * (X k p).tdiv (X b p)) N else w i) * X i j) N := by
  intro j
  rw [mt_s_split (f := fun i => w i * mt_ps S p b X i j) hb, mt_s_split (f := fun i => (if i = b then w b - mt_s (fun k => if k = b then 0 else w k * (X k p).tdiv (X b p)) N else w i) * X i j) hb]
  rw [mt_ps_b, if_pos rfl]
  have e1 : mt_s (fun i => if i = b then 0 else w i * mt_ps S p b X i j) N = mt_s (fun i => (if i = b then 0 else w i * X i j) + -(X b j * (if i = b then 0 else w i * (X i p).tdiv (X b p)))) N := mt_s_cg (fun i _ => by
    by_cases e : i = b
    · rw [if_pos e, if_pos e, if_pos e]; omega
    · rw [if_neg e, if_neg e, if_neg e]
      by_cases z : w i = 0
      · rw [z]; simp
      · rw [mt_ps_r (hw i z) e, Int.mul_sub]
        have : w i * ((X i p).tdiv (X b p) * X b j) = X b j * (w i * (X i p).tdiv (X b p)) := by rw [← Int.mul_assoc, Int.mul_comm]
        omega)
  have e2 : mt_s (fun i => -(X b j * (if i = b then 0 else w i * (X i p).tdiv (X b p)))) N = -(X b j * mt_s (fun i => if i = b then 0 else w i * (X i p).tdiv (X b p)) N) := by
    rw [← mt_s_mul]
    have := mt_s_mul (-1) (fun i => X b j * (if i = b then 0 else w i * (X i p).tdiv (X b p))) N
    rw [Int.neg_mul, Int.one_mul] at this
    rw [← this]; exact mt_s_cg (fun i _ => by rw [Int.neg_mul, Int.one_mul])
  have e3 : mt_s (fun i => if i = b then 0 else (if i = b then w b - mt_s (fun k => if k = b then 0 else w k * (X k p).tdiv (X b p)) N else w i) * X i j) N = mt_s (fun i => if i = b then 0 else w i * X i j) N := mt_s_cg (fun i _ => by
    by_cases e : i = b
    · rw [if_pos e, if_pos e]
    · rw [if_neg e, if_neg e, if_neg e])
  rw [e1, mt_s_add, e2, e3, Int.sub_mul, Int.mul_comm (X b j)]
  omega

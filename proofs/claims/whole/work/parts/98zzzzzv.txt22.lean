/-! ===== text: the reference, a text that is right ===== -/
theorem t_TI {m h k op q : Nat} {wr : Bool} {cd : Nat → Int32} {I : ax_I} (h1 : q ≠ m) (h2 : q ≠ m + 19) : ax_TI m h k op wr cd I q = I q := by
  funext z; unfold ax_TI; rw [if_neg h2, if_neg h1]
theorem t_TIm {m h k op j : Nat} {wr : Bool} {cd : Nat → Int32} {I : ax_I} (hj : j < 30) : ax_TI m h k op wr cd I m j = I m j := by
  unfold ax_TI; rw [if_neg (by omega), if_pos rfl, if_neg (by omega), if_neg (by omega), if_neg (by omega), if_neg (by omega)]
/-- maps, in both -/
theorem t_tS {I : ax_I} {S : Nat → Int32} {gn : Nat → Nat} (h : rl_St 1 I S) (hsn : ∀ g, g < 6 → S (14 * g) = nI (gn g) ∧ gn g ≤ 3) : tS S gn (I 5) (I 6) (fun f z => (I 7 (9 * f + z)).toInt64) := by
  intro f hf
  obtain ⟨a1, a2, a3⟩ := h.1.2.2.1 f hf
  have a1' : I 5 f = S (84 + 11 * f) := a1
  rcases h.2.2.1 f hf with s | ⟨p, r, x, y, hM, hE⟩
  · refine ⟨⟨fun _ => by rw [a1', s], fun _ => by rw [s]; decide⟩, fun q => absurd (by rw [a1', s]) q⟩
  · obtain ⟨-, p6, r6, x3, y3, s1, s2, s3, s4⟩ := hM
    have sn : ¬ S (84 + 11 * f) = -1 := fun q => by
      rw [s1] at q
      have : ∀ p, p < 6 → ¬ nI p = -1 := by decide +kernel
      exact this p p6 q
    have s0 : ¬ S (84 + 11 * f) < 0 := by
      rw [s1]
      have : ∀ p, p < 6 → ¬ nI p < 0 := by decide +kernel
      exact this p p6
    have ex : gn p = x := (nI_eq (by have := (hsn p p6).2; omega) (by omega)).mp ((hsn p p6).1.symm.trans s3)
    have ey : gn r = y := (nI_eq (by have := (hsn r r6).2; omega) (by omega)).mp ((hsn r r6).1.symm.trans s4)
    obtain ⟨b1, b2⟩ := a3 sn
    have b1' : I 6 f = S (84 + 11 * f + 1) := b1
    have b2' : ∀ z, z < 9 → I 7 (9 * f + z) = S (84 + 11 * f + 2 + z) := b2
    have el : ∀ z, z < 9 → ax_in3 (S (84 + 11 * f + 2 + z)).toInt64 (-99) 99 = true ∧ (¬ (z / 3 < x ∧ z % 3 < y) → S (84 + 11 * f + 2 + z) = 0) := fun z hz => by
      have := hE (z / 3) (z % 3) (by omega) (by omega)
      rw [show 84 + 11 * f + 2 + 3 * (z / 3) + z % 3 = 84 + 11 * f + 2 + z by omega] at this; exact this
    refine ⟨⟨fun q => absurd q s0, fun q => absurd (a1'.symm.trans q) sn⟩, fun _ => ⟨p, r, p6, r6, s1, s2, a1'.trans s1, b1'.trans s2, fun z hz => by dsimp only; rw [b2' z hz], ?_, fun z hz hg => ?_⟩⟩
    · rw [t_in3]
      intro z hz
      dsimp only
      rw [b2' z hz]
      have := (el z hz).1
      rw [rl_in3, decide_eq_true_eq] at this ⊢
      have e1 : (-99 : Int64).toInt = -99 := by decide
      have e2 : (99 : Int64).toInt = 99 := by decide
      have e3 : (-1000000000 : Int64).toInt = -1000000000 := by decide
      have e4 : (1000000000 : Int64).toInt = 1000000000 := by decide
      rw [e1, e2] at this
      rw [e3, e4]
      omega
    · dsimp only
      rw [b2' z hz, (el z hz).2 (by rw [ex, ey] at hg; omega)]; rfl
/-- the codes that were laid, as the machine's run -/
theorem t_tR {F T' : Nat → Int32} {B : Nat → Nat → Int64} {cd : Nat → Int32} {kc : Nat} (h : ∀ i, i < kc → t_ok F T' B cd i) : ∃ e : Nat → Nat, tR F T' B e (fun k => t_run F T' B cd k) kc ∧ (∀ k, k < kc → cd k = nI (e k)) ∧ (∀ k, e k ≤ 43) ∧ ∀ k, k < kc → 8 ≤ e k → 20 ≤ e k := by
  have key : ∀ k, k < kc → cd k = nI (cd k).toNatClampNeg ∧ (cd k).toNatClampNeg ≤ 43 ∧ (t_run F T' B cd k).1 ≤ 60 ∧ (((cd k).toNatClampNeg < 8 ∧ (t_run F T' B cd k).1 < 60) ∨ (20 ≤ (cd k).toNatClampNeg ∧ (cd k).toNatClampNeg < 40 ∧ 1 ≤ (t_run F T' B cd k).1) ∨ (40 ≤ (cd k).toNatClampNeg ∧ (cd k).toNatClampNeg < 43 ∧ 2 ≤ (t_run F T' B cd k).1) ∨ ((cd k).toNatClampNeg = 43 ∧ 1 ≤ (t_run F T' B cd k).1)) := fun k hk => by
    obtain ⟨x, x1, x2, x3, x4⟩ := h k hk
    have : (cd k).toNatClampNeg = x := by rw [x1]; exact nI_clamp (by omega)
    rw [this]; exact ⟨x1, x2, x3, x4⟩
  refine ⟨fun k => if k < kc then (cd k).toNatClampNeg else 0, ⟨⟨rfl, rfl, rfl, rfl⟩, fun k hk => ?_, fun k hk => ?_⟩, fun k hk => ?_, fun k => ?_, fun k hk => ?_⟩
  · show t_st F T' B (cd k).toNatClampNeg _ = t_st F T' B (if k < kc then (cd k).toNatClampNeg else 0) _
    rw [if_pos hk]
  · dsimp only; rw [if_pos hk]; exact (key k hk).2
  · dsimp only; rw [if_pos hk]; exact (key k hk).1
  · dsimp only
    by_cases hk : k < kc
    · rw [if_pos hk]; exact (key k hk).2.1
    · rw [if_neg hk]; omega
  · dsimp only; rw [if_pos hk]; intro h8
    have := (key k hk).2.2.2
    omega
/-- how deep the pile is -/
theorem tR.dp {F T' : Nat → Int32} {B : Nat → Nat → Int64} {e : Nat → Nat} {M : Nat → tM} {kc : Nat} (h : tR F T' B e M kc) : ∀ k, k < kc → (M k).1 ≤ 60 ∧ (e k < 8 → (M (k + 1)).1 = (M k).1 + 1 ∧ (M k).1 < 60) ∧ (8 ≤ e k → e k < 40 → (M (k + 1)).1 = (M k).1 ∧ 1 ≤ (M k).1) ∧ (40 ≤ e k → e k < 43 → (M (k + 1)).1 + 1 = (M k).1 ∧ 2 ≤ (M k).1) ∧ (43 ≤ e k → (M (k + 1)).1 = (M k).1 ∧ 1 ≤ (M k).1) := fun k hk => by
  obtain ⟨o1, o0, o2⟩ := h.ok k hk
  have ms := h.ms k hk
  refine ⟨o0, fun c => ?_, fun c c2 => ?_, fun c c2 => ?_, fun c => ?_⟩
  · have := (t_st1 (F := F) (T' := T') (B := B) (M := M k) c).1
    rw [← ms] at this; omega
  · have := (t_st2 (F := F) (T' := T') (B := B) (M := M k) c c2).1
    rw [← ms] at this; omega
  · by_cases c40 : e k = 40
    · have := (t_st3 (F := F) (T' := T') (B := B) (M := M k)).1
      rw [c40] at ms
      rw [← ms] at this; omega
    · have := (t_st4 (F := F) (T' := T') (B := B) (M := M k) (x := e k) (by omega) c2).1
      rw [← ms] at this; omega
  · have := (h.d5 hk c).1
    omega

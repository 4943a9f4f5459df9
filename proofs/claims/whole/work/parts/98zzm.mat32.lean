/-! ===== determinants of rows out of a family and of rows with a single 1; what a stage makes of them ===== -/
def gd_E (j : Nat) : Nat → Int := fun k => if k = j then 1 else 0
theorem gd_Ei (j : Nat) : gd_E j j = 1 := if_pos rfl
theorem gd_En {j k : Nat} (h : k ≠ j) : gd_E j k = 0 := if_neg h
theorem gd_I : ∀ n, gd n gd_E = 1 := by
  intro n
  rw [gd_tri n (fun i j _ hj => gd_En (by omega))]
  induction n with
  | zero => rfl
  | succ n ih =>
    show gd_q _ n * gd_E n n = 1
    rw [ih, gd_Ei]; rfl
theorem gd_row {n r : Nat} {M : Nat → Nat → Int} (u : Nat → Int) (hr : r < n) : gd n (mt_set M r u) = mt_s (fun i => u i * gd n (mt_set M r (gd_E i))) n := by
  have e := gd_sum (M := M) (Z := gd_E) (w := u) hr n
  rw [← e]
  refine gd_cg n (fun i j hi hj => ?_)
  by_cases c : i = r
  · subst c
    rw [mt_set_i, mt_set_i]
    try dsimp only
    rw [mt_s_one (q := j) hj (fun k _ hk => by rw [gd_En (Ne.symm hk), Int.mul_zero]), gd_Ei, Int.mul_one]
  · rw [mt_set_n c, mt_set_n c]
/-- all rows but one have nothing at a place -/
theorem gd_pE {n p r : Nat} {M : Nat → Nat → Int} (u : Nat → Int) (hp : p < n) (hr : r < n) (h : ∀ a, a < n → a ≠ r → M a p = 0) : gd n (mt_set M r u) = u p * gd n (mt_set M r (gd_E p)) := by
  rw [gd_row u hr]
  refine mt_s_one (q := p) hp (fun i hi hne => ?_)
  rw [gd_zc n (b := p) hp (fun a ha => by
    by_cases c : a = r
    · subst c; rw [mt_set_i]; exact gd_En (Ne.symm hne)
    · rw [mt_set_n c]; exact h a ha c), Int.mul_zero]
/-- all determinants of rows out of a family and unit rows are at most G -/
def gd_F (n : Nat) (Φ : (Nat → Int) → Prop) (G : Nat) : Prop := ∀ Z : Nat → Nat → Int, (∀ a, a < n → Φ (Z a) ∨ ∃ j, Z a = gd_E j) → (gd n Z).natAbs ≤ G
theorem gd_F.mono {n G G' : Nat} {Φ Ψ : (Nat → Int) → Prop} (h : gd_F n Φ G) (hΨ : ∀ u, Ψ u → Φ u) (hG : G ≤ G') : gd_F n Ψ G' := fun Z hZ => Nat.le_trans (h Z (fun a ha => (hZ a ha).imp (hΨ _) id)) hG
theorem gd_F.one {n G : Nat} {Φ : (Nat → Int) → Prop} (h : gd_F n Φ G) {u : Nat → Int} (hu : Φ u) {j : Nat} (hj : j < n) : (u j).natAbs ≤ G := by
  have h1 := h (mt_set gd_E j u) (fun a _ => by
    by_cases c : a = j
    · subst c; rw [mt_set_i]; exact Or.inl hu
    · rw [mt_set_n c]; exact Or.inr ⟨a, rfl⟩)
  rw [gd_pE u hj hj (fun a _ hne => gd_En (Ne.symm hne)), mt_set_self, gd_I, Int.mul_one] at h1
  exact h1
theorem gd_F.two {n G : Nat} {Φ : (Nat → Int) → Prop} (h : gd_F n Φ G) {u v : Nat → Int} (hu : Φ u) (hv : Φ v) {p j : Nat} (hp : p < n) (hj : j < n) : (u p * v j - v p * u j).natAbs ≤ G := by
  by_cases e : p = j
  · subst e; rw [Int.mul_comm (v p), Int.sub_self]; exact Nat.zero_le _
  · have h1 := h (mt_set (mt_set gd_E p u) j v) (fun a _ => by
      by_cases c : a = j
      · subst c; rw [mt_set_i]; exact Or.inl hv
      · rw [mt_set_n c]
        by_cases d : a = p
        · subst d; rw [mt_set_i]; exact Or.inl hu
        · rw [mt_set_n d]; exact Or.inr ⟨a, rfl⟩)
    have e1 : gd n (mt_set (mt_set gd_E p u) j v) = u p * v j - v p * u j := by
      rw [gd_row v hj, mt_s_split (b := j) hj, mt_s_one (q := p) hp (fun i hi hne => by
        by_cases c : i = j
        · exact if_pos c
        · rw [if_neg c, gd_z (M := mt_set (mt_set gd_E p u) j (gd_E i)) hi hj c (fun k => by rw [mt_set_n c, mt_set_n hne, mt_set_i]), Int.mul_zero]), if_neg e]
      have a1 : mt_set (mt_set gd_E p u) j (gd_E j) = mt_set gd_E p u := by rw [mt_set_comm e, mt_set_self]
      have a2 : gd n (mt_set (mt_set gd_E p u) j (gd_E p)) = -u j := by
        rw [mt_set_comm e, gd_pE u hj hp (fun a _ hne => by
          by_cases c : a = j
          · subst c; rw [mt_set_i]; exact gd_En (Ne.symm e)
          · rw [mt_set_n c]; exact gd_En (Ne.symm c))]
        rw [gd_sw (M := gd_E) hj hp (Ne.symm e), gd_I]
        omega
      rw [a1, a2, gd_pE u hp hp (fun a _ hne => gd_En (Ne.symm hne)), mt_set_self, gd_I]
      grind
    rw [e1] at h1; exact h1
/-- a row is a sum -/
theorem gd_ex {n a N c B : Nat} {M X : Nat → Nat → Int} {Y w : Nat → Int} {v : Int} (ha : a < n) (hv : v ≠ 0) (hY : ∀ j, v * Y j = mt_s (fun i => w i * X i j) N) (hW : mt_s (fun i => ((w i).natAbs : Int)) N ≤ (c : Int) * (v.natAbs : Int)) (hB : ∀ i, w i ≠ 0 → (gd n (mt_set M a (X i))).natAbs ≤ B) : (gd n (mt_set M a Y)).natAbs ≤ c * B := by
  have e1 : v * gd n (mt_set M a Y) = mt_s (fun i => w i * gd n (mt_set M a (X i))) N := by
    rw [← gd_sum ha N]
    have e := gd_lin n (M := M) v 0 Y Y ha
    rw [Int.zero_mul, Int.add_zero] at e
    rw [← e]
    congr 2
    funext j
    rw [Int.zero_mul, Int.add_zero]; exact hY j
  have e2 : ((mt_s (fun i => w i * gd n (mt_set M a (X i))) N).natAbs : Int) ≤ mt_s (fun i => (B : Int) * ((w i).natAbs : Int)) N := Int.le_trans mt_s_abs (mt_s_le (fun i _ => by
    by_cases z : w i = 0
    · rw [z]; simp
    · rw [Int.natAbs_mul]
      have := Nat.mul_le_mul_left (w i).natAbs (hB i z)
      rw [Nat.mul_comm (w i).natAbs B] at this
      exact_mod_cast this))
  rw [mt_s_mul, ← e1, Int.natAbs_mul] at e2
  have e3 : (B : Int) * mt_s (fun i => ((w i).natAbs : Int)) N ≤ (B : Int) * ((c : Int) * (v.natAbs : Int)) := Int.mul_le_mul_of_nonneg_left hW (Int.natCast_nonneg _)
  have e4 : (B : Int) * ((c : Int) * (v.natAbs : Int)) = ((v.natAbs * (c * B) : Nat) : Int) := by
    rw [Int.natCast_mul, Int.natCast_mul]; ac_rfl
  have e5 : v.natAbs * (gd n (mt_set M a Y)).natAbs ≤ v.natAbs * (c * B) := by
    have : ((v.natAbs * (gd n (mt_set M a Y)).natAbs : Nat) : Int) ≤ ((v.natAbs * (c * B) : Nat) : Int) := by omega
    exact_mod_cast this
  exact Nat.le_of_mul_le_mul_left e5 (by omega)
/-- a multiple of another row is taken from a row that stands so often -/
theorem gd_ta {n a b : Nat} {M : Nat → Nat → Int} {t : Nat → Int} {v c : Int} (ha : a < n) (hb : b < n) (hab : a ≠ b) : gd n (mt_set M a (fun j => v * t j - c * M b j)) = v * gd n (mt_set M a t) := by
  have e := gd_lin n (M := M) v (-c) t (M b) ha
  rw [gd_z (M := mt_set M a (M b)) ha hb hab (fun j => by rw [mt_set_i, mt_set_n (Ne.symm hab)]), Int.mul_zero, Int.add_zero] at e
  rw [← e]
  congr 2
  funext j
  rw [Int.neg_mul]; omega
/-- rows that are sums of the others' -/
theorem gd_dvn {n : Nat} {Y Z : Nat → Nat → Int} (h : ∀ a, a < n → mt_sp n Z (Y a)) : gd n Z ∣ gd n Y := by
  have hs : ∃ d : Nat → Nat → Int, ∀ a, a < n → ∀ j, Y a j = mt_s (fun i => d a i * Z i j) n := by
    exact gd_sk (Q := fun a d => ∀ j, Y a j = mt_s (fun i => d i * Z i j) n) (fun a ha => h a ha)
  obtain ⟨d, hd⟩ := hs
  exact gd_dv hd (fun f hf => gd_sel n (Nat.le_refl _) f (fun a h1 h2 => absurd h1 (by omega)) hf)
/-- rows that are there and have a number at the place: what they span stays -/
theorem mt_tr.spA {S : Nat → Bool} {p N : Nat} {M : Nat → Nat → Int} {A : Nat → Prop} : ∀ {n : Nat} {X Y : Nat → Nat → Int} {b : Nat}, mt_tr S p n X Y b → (∀ r, S r = true → X r p ≠ 0 → A r) → ((∀ r, S r = true → A r → mt_sp N M (X r)) ↔ ∀ r, S r = true → A r → mt_sp N M (Y r)) := by
  intro n
  induction n with
  | zero => exact fun h => h.elim
  | succ n ih =>
    intro X Y b h hA
    obtain ⟨b0, h1, h2, -, h4⟩ := h
    have step : (∀ r, S r = true → A r → mt_sp N M (X r)) ↔ ∀ r, S r = true → A r → mt_sp N M (mt_ps S p b0 X r) := by
      refine ⟨fun h r hr ha => ?_, fun h r hr ha => ?_⟩
      · by_cases e : r = b0
        · rw [e, mt_ps_b]; exact h b0 h1 (hA b0 h1 h2)
        · exact ((h r hr ha).sub ((X r p).tdiv (X b0 p)) (h b0 h1 (hA b0 h1 h2))).cg (fun j => mt_ps_r hr e)
      · have hb := h b0 h1 (hA b0 h1 h2)
        rw [mt_ps_b] at hb
        by_cases e : r = b0
        · rw [e]; exact hb
        · exact ((h r hr ha).add (hb.mul ((X r p).tdiv (X b0 p)))).cg (fun j => by
            try dsimp only
            rw [mt_ps_r hr e]; omega)
    rcases h4 with ⟨-, rfl, rfl⟩ | ⟨-, h3⟩
    · exact step
    · rw [step]
      refine ih h3 (fun r hr hne => ?_)
      by_cases z : X r p = 0
      · exfalso
        by_cases e : r = b0
        · exact h2 (e ▸ z)
        · exact hne (by rw [mt_ps_r hr e, z, Int.zero_tdiv, Int.zero_mul]; rfl)
      · exact hA r hr z

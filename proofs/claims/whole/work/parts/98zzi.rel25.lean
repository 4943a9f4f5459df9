/-! ===== pairs: span ===== -/
theorem mt_sp.cgX {N : Nat} {X Y : Nat → Nat → Int} (h : ∀ r, r < N → X r = Y r) {v : Nat → Int} (hv : mt_sp N X v) : mt_sp N Y v := mt_sp.le (fun i hi => by rw [h i hi]; exact mt_sp.row hi) hv
theorem mt_nt_cg {w N : Nat} {X Y : Nat → Nat → Int} (h : ∀ r, r < N → X r = Y r) : mt_nt w N X = mt_nt w N Y := by
  have e : (fun B : Nat → Nat → Int => mt_hn w B ∧ (∀ k, k < w → mt_sp N X (B k)) ∧ ∀ r, r < N → mt_sp w B (X r)) = fun B : Nat → Nat → Int => mt_hn w B ∧ (∀ k, k < w → mt_sp N Y (B k)) ∧ ∀ r, r < N → mt_sp w B (Y r) := by
    funext B
    refine propext ⟨fun z => ⟨z.1, fun k hk => (z.2.1 k hk).cgX h, fun r hr => by rw [← h r hr]; exact z.2.2 r hr⟩, fun z => ⟨z.1, fun k hk => (z.2.1 k hk).cgX (fun r hr => (h r hr).symm), fun r hr => by rw [h r hr]; exact z.2.2 r hr⟩⟩
  funext k j
  unfold mt_nt
  rw [e]
/-- rows come to a Lattice one by one -/
theorem sp_ins {w b q r : Nat} {X : Nat → Nat → Int} {L : ax_L} (hw : w ≤ 3) (hq : q < b + 2 ∨ b + 8 < q) (hX : ∀ r j, (X r j).natAbs ≤ 99) (hX0 : ∀ r j, w ≤ j → X r j = 0) (hN : mt_hn w (mt_nt w r X) ∧ (∀ k, k < w → mt_sp r X (mt_nt w r X k)) ∧ ∀ i, i < r → mt_sp w (mt_nt w r X) (X i)) (hL : mt_lat L b (mt_nt w r X)) (hc : ∀ j, j < w → L q j = Int64.ofInt (X r j)) :
    mt_lat (ax_inr b w q L) b (mt_nt w (r + 1) X) ∧ (mt_hn w (mt_nt w (r + 1) X) ∧ (∀ k, k < w → mt_sp (r + 1) X (mt_nt w (r + 1) X k)) ∧ ∀ i, i < r + 1 → mt_sp w (mt_nt w (r + 1) X) (X i)) ∧ ∀ x, (x < b + 2 ∨ b + 8 < x) → ax_inr b w q L x = L x := by
  have zw : ∀ k j, w ≤ k → mt_nt w r X k j = 0 := fun k j hk => by unfold mt_nt; rw [if_neg (by omega)]
  have c8 : ∀ j, j < w → ax_cp L q (b + 8) 0 0 w (b + 8) j = Int64.ofInt (X r j) := fun j hj => by
    rw [ax_cp_eq]
    unfold va_cpy
    rw [if_pos (by omega), Nat.sub_zero, Nat.zero_add]; exact hc j hj
  have cn : ∀ x, x ≠ b + 8 → ax_cp L q (b + 8) 0 0 w x = L x := fun x hx => ax_cp_ne hx
  obtain ⟨m1, m2, m3⟩ := mt_insert (Q := mt_Qs w) (b := b) (w := w) (r := r) (X := X) (L := ax_cp L q (b + 8) 0 0 w) (by omega) (mt_Js hw) hX0 hN (mt_Qs0 hw (fun r j _ => hX r j) ⟨hN.1, zw⟩ hN.2.1 hN.2.2 (hX r)) (fun k j hk hj => by rw [cn _ (by omega)]; exact hL k j hk hj) c8
  exact ⟨m1, m2, fun x hx => (m3 x hx).trans (cn x (by omega))⟩
/-- the elements of a sheet -/
def sp_X (S : Nat → Int32) (g w c m : Nat) (C : Nat → Int64) (b : Nat) : Nat → Nat → Int := fun r j => if j < w then (if r < c then (S (14 * g + 2 + 3 * r + j)).toInt else if r < c + m then (C (b + 3 * (r - c) + j)).toInt else 0) else 0
theorem sp_spq {j i e : Nat} {J : ax_L} : ∀ n q z, ax_spq 0 j i e n J q z = if q = 621 ∧ z < n then J (624 + 2 * j) (i + 3 * e + z) else J q z := by
  intro n
  induction n with
  | zero => intro q z; rw [if_neg (by omega)]; rfl
  | succ n ih =>
    intro q z
    have e1 : ax_spq 0 j i e n J (0 + (624 + 2 * j)) (i + 3 * e + n) = J (624 + 2 * j) (i + 3 * e + n) := by rw [Nat.zero_add, ih, if_neg (by omega)]
    show ax_u (ax_spq 0 j i e n J) 621 n (ax_spq 0 j i e n J (0 + (624 + 2 * j)) (i + 3 * e + n)) q z = _
    rw [e1]
    by_cases hq : q = 621
    · subst hq
      by_cases hz : z = n
      · subst hz; rw [ax_u_at, if_pos ⟨rfl, by omega⟩]
      · rw [ax_u_nj hz, ih]
        by_cases hz2 : z < n
        · rw [if_pos ⟨rfl, hz2⟩, if_pos ⟨rfl, by omega⟩]
        · rw [if_neg (fun y => hz2 y.2), if_neg (fun y => hz2 (by have := y.2; omega))]
    · rw [ax_u_ne hq, ih, if_neg (fun y => hq y.1), if_neg (fun y => hq y.1)]
theorem sp_spe {S : Nat → Int32} {g j i c m : Nat} {gn : Nat → Nat} {L : ax_L} {C : Nat → Int64} (hw : gn g ≤ 3) (hj : j < 4) (hX : ∀ r k, (sp_X S g (gn g) c m C i r k).natAbs ≤ 99) (hC : L (624 + 2 * j) = C) (hN : mt_hn (gn g) (mt_nt (gn g) c (sp_X S g (gn g) c m C i)) ∧ (∀ k, k < gn g → mt_sp c (sp_X S g (gn g) c m C i) (mt_nt (gn g) c (sp_X S g (gn g) c m C i) k)) ∧ ∀ r, r < c → mt_sp (gn g) (mt_nt (gn g) c (sp_X S g (gn g) c m C i)) (sp_X S g (gn g) c m C i r)) (hL : mt_lat L 606 (mt_nt (gn g) c (sp_X S g (gn g) c m C i))) : ∀ n, n ≤ m →
    mt_lat (ax_spe 0 g j i gn n L) 606 (mt_nt (gn g) (c + n) (sp_X S g (gn g) c m C i)) ∧ (mt_hn (gn g) (mt_nt (gn g) (c + n) (sp_X S g (gn g) c m C i)) ∧ (∀ k, k < gn g → mt_sp (c + n) (sp_X S g (gn g) c m C i) (mt_nt (gn g) (c + n) (sp_X S g (gn g) c m C i) k)) ∧ ∀ r, r < c + n → mt_sp (gn g) (mt_nt (gn g) (c + n) (sp_X S g (gn g) c m C i)) (sp_X S g (gn g) c m C i r)) ∧ ∀ x, (x < 608 ∨ 614 < x) → x ≠ 621 → ax_spe 0 g j i gn n L x = L x := by
  intro n
  induction n with
  | zero => exact fun _ => ⟨hL, hN, fun _ _ _ => rfl⟩
  | succ n ih =>
    intro hnm
    obtain ⟨i1, i2, i3⟩ := ih (by omega)
    have hq : ∀ x, x ≠ 621 → ax_spq 0 j i n 3 (ax_spe 0 g j i gn n L) x = ax_spe 0 g j i gn n L x := fun x hx => by funext z; rw [sp_spq, if_neg (fun y => hx y.1)]
    obtain ⟨m1, m2, m3⟩ := sp_ins (w := gn g) (b := 606) (q := 621) (r := c + n) (X := sp_X S g (gn g) c m C i) (L := ax_spq 0 j i n 3 (ax_spe 0 g j i gn n L)) hw (by omega) hX (fun r k hk => if_neg (by omega)) i2 (fun k z hk hz => by rw [hq _ (by omega)]; exact i1 k z hk hz) (fun z hz => by
      rw [sp_spq, if_pos ⟨rfl, by omega⟩, i3 _ (by omega) (by omega), hC]
      unfold sp_X
      rw [if_pos hz, if_neg (by omega), if_pos (by omega), Int64.ofInt_toInt, show i + 3 * (c + n - c) + z = i + 3 * n + z by omega])
    refine ⟨m1, m2, fun x hx h6 => ?_⟩
    show ax_inr 606 (gn g) 621 (ax_spq 0 j i n 3 (ax_spe 0 g j i gn n L)) x = _
    rw [m3 x (by omega), hq x h6]; exact i3 x hx h6
/-! the reference -/
theorem mt_al {h t wd : Nat} {L : ax_L} (ht : t ≠ h) (hw : wd ≤ 6) : ∀ n, (∀ q, q ≠ h → ax_al h t wd n L q = L q) ∧ ∀ i j, i < n → j < 6 → ax_al h t wd n L h (6 * i + j) = if j < wd then L t (6 * i + j) else 0 := by
  intro n
  induction n with
  | zero => exact ⟨fun _ _ => rfl, fun i j h => absurd h (Nat.not_lt_zero _)⟩
  | succ n ih =>
    obtain ⟨i1, i2⟩ := ih
    have e : ∀ q z, ax_al h t wd (n + 1) L q z = if q = h ∧ 6 * n ≤ z ∧ z < 6 * n + 6 then (if 6 * n + 0 ≤ z ∧ z < 6 * n + 0 + wd then ax_al h t wd n L t (6 * n + (z - (6 * n + 0))) else 0) else ax_al h t wd n L q z := fun q z => mt_hp ht (by omega) q z
    refine ⟨fun q hq => ?_, fun i j hi hj => ?_⟩
    · funext z; rw [e, if_neg (fun y => hq y.1)]; exact congrFun (i1 q hq) z
    · rw [e]
      by_cases ei : i = n
      · subst ei
        rw [if_pos ⟨rfl, by omega, by omega⟩, i1 t ht]
        by_cases hj2 : j < wd
        · rw [if_pos (by omega), if_pos hj2, show 6 * i + (6 * i + j - (6 * i + 0)) = 6 * i + j by omega]
        · rw [if_neg (by omega), if_neg hj2]
      · rw [if_neg (by omega)]; exact i2 i j (by omega) hj
theorem mt_sh {m wd b : Nat} {L : ax_L} (hw : wd ≤ 6) : ∀ n, (∀ q, q ≠ m + 4 → ax_sh m wd b n L q = L q) ∧ (∀ z, z < 6 * wd → ax_sh m wd b n L (m + 4) z = L (m + 4) z) ∧ ∀ i j, i < n → j < 6 → ax_sh m wd b n L (m + 4) (6 * (wd + i) + j) = if j < wd then L (m + 30) (b + 3 * i + j) else 0 := by
  intro n
  induction n with
  | zero => exact ⟨fun _ _ => rfl, fun _ _ => rfl, fun i j h => absurd h (Nat.not_lt_zero _)⟩
  | succ n ih =>
    obtain ⟨i1, i2, i3⟩ := ih
    have e : ∀ q z, ax_sh m wd b (n + 1) L q z = if q = m + 4 ∧ 6 * (wd + n) ≤ z ∧ z < 6 * (wd + n) + 6 then (if 6 * (wd + n) + 0 ≤ z ∧ z < 6 * (wd + n) + 0 + wd then ax_sh m wd b n L (m + 30) (b + 3 * n + (z - (6 * (wd + n) + 0))) else 0) else ax_sh m wd b n L q z := fun q z => mt_hp (by omega) (by omega) q z
    refine ⟨fun q hq => ?_, fun z hz => ?_, fun i j hi hj => ?_⟩
    · funext z; rw [e, if_neg (fun y => hq y.1)]; exact congrFun (i1 q hq) z
    · rw [e, if_neg (by omega)]; exact i2 z hz
    · rw [e]
      by_cases ei : i = n
      · subst ei
        rw [if_pos ⟨rfl, by omega, by omega⟩, i1 _ (by omega)]
        by_cases hj2 : j < wd
        · rw [if_pos (by omega), if_pos hj2, show b + 3 * i + (6 * (wd + i) + j - (6 * (wd + i) + 0)) = b + 3 * i + j by omega]
        · rw [if_neg (by omega), if_neg hj2]
      · rw [if_neg (by omega)]; exact i3 i j (by omega) hj
/-- what span makes of what is nothing, by the reference -/
theorem sp_ref {w b n : Nat} {B : Nat → Nat → Int} {C : Nat → Int64} {N : ax_L} (hw : w ≤ 3) (hN : mt_at N 644 B) (hB : cg_B w B) (hb : (∀ k, (B k 0).natAbs ≤ 99) ∧ (∀ k, (B k 1).natAbs ≤ 162) ∧ ∀ k, (B k 2).natAbs ≤ 4374) (hC : N 669 = C) (h9 : ∀ r j, r < n → j < 3 → (C (b + 3 * r + j)).toInt.natAbs ≤ 99) :
    ∃ Q D, ax_S1 639 w b n 9223372036854775808 N = some Q ∧ mt_at Q 648 D ∧ mt_at Q 644 B ∧ (∀ q, q ≠ 643 → q ≠ 648 → Q q = N q) ∧ cg_B w D ∧ (∀ k, k < w → mt_sp (w + n) (fun r j => if r < w then B r j else if j < w then (C (b + 3 * (r - w) + j)).toInt else 0) (D k)) ∧ ∀ r, r < w + n → mt_sp w D (fun j => if r < w then B r j else if j < w then (C (b + 3 * (r - w) + j)).toInt else 0) := by
  obtain ⟨a1, a2⟩ := mt_al (h := 643) (t := 644) (wd := w) (L := N) (by omega) (by omega) w
  obtain ⟨s1, s2, s3⟩ := mt_sh (m := 639) (wd := w) (b := b) (L := ax_al 643 644 w w N) (by omega) n
  obtain ⟨f, L1, D, ew, h1, h2, h3, h4, h5, h6, -⟩ := mt_works3 (w := w) (h := 643) (t := 648) (hp := w + n) (fu := 9223372036854775808) (X0 := fun r j => if r < w then B r j else if j < w then (C (b + 3 * (r - w) + j)).toInt else 0) (L0 := ax_t0 648 36 (ax_sh 639 w b n (ax_al 643 644 w w N))) (e := fun j => if j = 0 then 99 else if j = 1 then 162 else 4374) hw (by omega) (fun i j hi hj => by
      rw [mt_t0, if_neg (by omega)]
      by_cases hiw : i < w
      · rw [if_pos hiw]
        have e := s2 (6 * i + j) (by omega)
        rw [show (639 + 4 : Nat) = 643 from rfl] at e
        rw [e, a2 i j hiw hj]
        by_cases hj2 : j < w
        · rw [if_pos hj2]; exact hN i j (by omega) hj
        · rw [if_neg hj2, hB.out i j (by omega)]; rfl
      · rw [if_neg hiw]
        have e := s3 (i - w) j (by omega) hj
        rw [show (639 + 4 : Nat) = 643 from rfl, show (639 + 30 : Nat) = 669 from rfl, show w + (i - w) = i by omega] at e
        rw [e, a1 669 (by omega), hC]
        by_cases hj2 : j < w
        · rw [if_pos hj2, if_pos hj2, Int64.ofInt_toInt]
        · rw [if_neg hj2, if_neg hj2]; rfl) (fun r j _ hj => by
      split
      · exact hB.out r j hj
      · rw [if_neg (by omega)]) (fun r j hr => by
      by_cases hrw : r < w
      · rw [if_pos hrw]
        by_cases j0 : j = 0
        · rw [if_pos j0, j0]; exact hb.1 r
        · rw [if_neg j0]
          by_cases j1 : j = 1
          · rw [if_pos j1, j1]; exact hb.2.1 r
          · rw [if_neg j1]
            by_cases j2 : j = 2
            · rw [j2]; exact hb.2.2 r
            · rw [hB.out r j (by omega)]; exact Nat.zero_le _
      · rw [if_neg hrw]
        by_cases hj2 : j < w
        · rw [if_pos hj2]
          have := h9 (r - w) j (by omega) (by omega)
          split
          · omega
          · split <;> omega
        · rw [if_neg hj2]; exact Nat.zero_le _) (fun z hz => by rw [mt_t0, if_pos ⟨rfl, hz⟩]) (Nat.le_refl _) (by decide) (by decide) (by decide) (by decide) (by decide) (by decide)
  have fr : ∀ q, q ≠ 643 → q ≠ 648 → ax_bk 648 w w L1 q = N q := fun q q1 q2 => by
    rw [h6 q q1 q2]
    funext z
    rw [mt_t0, if_neg (fun y => q2 y.1)]
    have e := s1 q (show q ≠ 639 + 4 by omega)
    rw [e, a1 q q1]
  refine ⟨ax_bk 648 w w L1, fun k j => if k < w then D k j else 0, ?_, fun k j hk hj => ?_, fun k j hk hj => ?_, fr, ⟨⟨fun k j hk hj => ?_, fun k hk => ?_, fun k hk hz j => ?_, fun k q hkq hq hne => ?_, fun k j hk hj => ?_⟩, fun k j hk => if_neg (by omega)⟩, fun k hk => ?_, fun r hr => ?_⟩
  · show (ax_wk 643 648 (w + n) 9223372036854775808 w _).map _ = _
    rw [show (639 + 4 : Nat) = 643 from rfl] at *
    rw [ew]; rfl
  · dsimp only
    by_cases hkw : k < w
    · rw [if_pos hkw]; exact h2 k j hkw hj
    · rw [if_neg hkw, h3 _ (by omega) (by omega)]; rfl
  · rw [fr 644 (by omega) (by omega)]; exact hN k j hk hj
  · dsimp only; rw [if_pos hk]; exact h1.1 k j hk hj
  · dsimp only; rw [if_pos hk]; exact h1.2.1 k hk
  · dsimp only at hz ⊢; rw [if_pos hk] at hz ⊢; exact h1.2.2.1 k hk hz j
  · dsimp only at hne ⊢; rw [if_pos hq] at hne ⊢; rw [if_pos (by omega)]; exact h1.2.2.2.1 k q hkq hq hne
  · dsimp only; rw [if_pos hk]; exact h1.2.2.2.2 k j hk hj
  · have := h4 k hk
    exact this.cg (fun j => if_pos hk)
  · exact (h5 r hr).cgX (fun k hk => by funext j; exact (if_pos hk).symm)
/-! how many: by both -/
def sp_q (B W : Nat → Nat → Int) : Nat → Nat
  | 0 => 1
  | n + 1 => sp_q B W n * (if W n n = 0 then 1 else (B n n).natAbs / (W n n).natAbs)
def sp_m (B : Nat → Nat → Int) : Nat → Nat
  | 0 => 1
  | n + 1 => sp_m B n * (if B n n = 0 then 1 else (B n n).natAbs)
theorem sp_qm {B W : Nat → Nat → Int} (hd : ∀ k, W k k ∣ B k k) : ∀ n, (∀ k, k < n → W k k ≠ 0 → B k k ≠ 0) → sp_q B W n * sp_m W n = sp_m B n := by
  intro n
  induction n with
  | zero => exact fun _ => rfl
  | succ n ih =>
    intro h
    show sp_q B W n * _ * (sp_m W n * _) = sp_m B n * _
    rw [← ih (fun k hk => h k (by omega))]
    by_cases c : W n n = 0
    · have := hd n
      rw [c] at this
      have z := Int.zero_dvd.mp this
      rw [if_pos c, if_pos c, if_pos z]; simp
    · rw [if_neg c, if_neg c, if_neg (h n (by omega) c)]
      have e := Nat.div_mul_cancel (Int.natAbs_dvd_natAbs.mpr (hd n))
      have : sp_q B W n * ((B n n).natAbs / (W n n).natAbs) * (sp_m W n * (W n n).natAbs) = sp_q B W n * sp_m W n * ((B n n).natAbs / (W n n).natAbs * (W n n).natAbs) := by ac_rfl
      rw [this, e]
theorem sp_rk {B W : Nat → Nat → Int} (hd : ∀ k, W k k ∣ B k k) : ∀ n, cg_rk B n ≤ cg_rk W n ∧ (cg_rk W n = cg_rk B n ↔ ∀ k, k < n → W k k ≠ 0 → B k k ≠ 0) := by
  intro n
  induction n with
  | zero => exact ⟨Nat.le_refl _, fun _ k h => absurd h (Nat.not_lt_zero _), fun _ => rfl⟩
  | succ n ih =>
    obtain ⟨i1, i2⟩ := ih
    have e1 : cg_rk B (n + 1) = cg_rk B n + (if B n n = 0 then 0 else 1) := rfl
    have e2 : cg_rk W (n + 1) = cg_rk W n + (if W n n = 0 then 0 else 1) := rfl
    have wb : W n n = 0 → B n n = 0 := fun z => by
      have := hd n
      rw [z] at this; exact Int.zero_dvd.mp this
    by_cases c : W n n = 0
    · rw [if_pos c] at e2
      rw [if_pos (wb c)] at e1
      rw [e1, e2]
      refine ⟨by omega, fun h k hk => ?_, fun h => ?_⟩
      · by_cases ek : k = n
        · subst ek; intro z; exact absurd c z
        · exact i2.mp (by omega) k (by omega)
      · have := i2.mpr (fun k hk => h k (by omega)); omega
    · rw [if_neg c] at e2
      by_cases d : B n n = 0
      · rw [if_pos d] at e1
        rw [e1, e2]
        refine ⟨by omega, fun h => ?_, fun h => absurd d (h n (by omega) c)⟩
        omega
      · rw [if_neg d] at e1
        rw [e1, e2]
        refine ⟨by omega, fun h k hk => ?_, fun h => ?_⟩
        · by_cases ek : k = n
          · subst ek; exact fun _ => d
          · exact i2.mp (by omega) k (by omega)
        · have := i2.mpr (fun k hk => h k (by omega)); omega
theorem sp_sn {V W : Nat → Int64} {B D : Nat → Nat → Int} {w : Nat} (hV : ∀ k, k < w → V (7 * k) = Int64.ofInt (B k k)) (hW : ∀ k, k < w → W (7 * k) = Int64.ofInt (D k k)) (oB : ∀ k, mt_ok (B k k) ∧ 0 ≤ B k k) (oD : ∀ k, mt_ok (D k k) ∧ 0 ≤ D k k) : ∀ n, n ≤ w → ax_sn W V n = if ∀ k, k < n → D k k ≠ 0 → B k k ≠ 0 then Int64.ofInt (sp_q B D n : Int) else 0 := by
  intro n
  induction n with
  | zero => intro _; rw [if_pos (fun k h => absurd h (Nat.not_lt_zero _))]; rfl
  | succ n ih =>
    intro hn
    have e : ax_sn W V (n + 1) = if W (7 * n) = 0 then ax_sn W V n else if V (7 * n) = 0 then 0 else ax_sn W V n * (V (7 * n) / W (7 * n)) := rfl
    rw [hV n (by omega), hW n (by omega), ih (by omega)] at e
    rw [e]
    by_cases c : D n n = 0
    · rw [if_pos ((mt_eq0 (oD n).1).mpr c)]
      by_cases p : ∀ k, k < n → D k k ≠ 0 → B k k ≠ 0
      · rw [if_pos p, if_pos (fun k hk => by
          by_cases ek : k = n
          · subst ek; intro z; exact absurd c z
          · exact p k (by omega))]
        show _ = Int64.ofInt ((sp_q B D n * (if D n n = 0 then 1 else _) : Nat) : Int)
        rw [if_pos c, Nat.mul_one]
      · rw [if_neg p, if_neg (fun z => p (fun k hk => z k (by omega)))]
    · rw [if_neg (fun z => c ((mt_eq0 (oD n).1).mp z))]
      by_cases d : B n n = 0
      · rw [if_pos ((mt_eq0 (oB n).1).mpr d), if_neg (fun z => z n (by omega) c d)]
      · rw [if_neg (fun z => d ((mt_eq0 (oB n).1).mp z)), mt_div (oB n).1 (oD n).1]
        by_cases p : ∀ k, k < n → D k k ≠ 0 → B k k ≠ 0
        · rw [if_pos p, if_pos (fun k hk => by
            by_cases ek : k = n
            · subst ek; exact fun _ => d
            · exact p k (by omega)), ← Int64.ofInt_mul]
          congr 1
          show _ = ((sp_q B D n * (if D n n = 0 then 1 else _) : Nat) : Int)
          rw [if_neg c, Int.natCast_mul]
          congr 1
          have b1 := (oB n).2
          have d1 := (oD n).2
          rw [Int.ofNat_tdiv, Int.natAbs_of_nonneg b1, Int.natAbs_of_nonneg d1]
        · rw [if_neg p, if_neg (fun z => p (fun k hk => z k (by omega))), Int64.zero_mul]
theorem sp_mx {x : Int} (hx : mt_ok x) (h0 : 0 ≤ x) : (if 1 < Int64.ofInt x then Int64.ofInt x else 1) = Int64.ofInt ((if x = 0 then 1 else x.natAbs : Nat) : Int) := by
  have e1 : (1 : Int64) = Int64.ofInt 1 := rfl
  have h1 : 1 < Int64.ofInt x ↔ 1 < x := by rw [e1]; exact mt_lt (by unfold mt_ok; omega) hx
  by_cases c : 1 < x
  · rw [if_pos (h1.mpr c), if_neg (by omega), Int.natAbs_of_nonneg h0]
  · rw [if_neg (fun z => c (h1.mp z))]
    by_cases z : x = 0
    · rw [if_pos z]; rfl
    · rw [if_neg z, show x = 1 by omega]; rfl
theorem sp_ixw {L : ax_L} {a b w : Nat} {B W : Nat → Nat → Int} (hw : w ≤ 6) (hB : mt_lat L a B) (hW : mt_lat L b W) (oB : ∀ k, mt_ok (B k k) ∧ 0 ≤ B k k) (oW : ∀ k, mt_ok (W k k) ∧ 0 ≤ W k k) : ∀ n, n ≤ w → ax_ixw L a b n (1, 1) = (Int64.ofInt (sp_m B n : Int), Int64.ofInt (sp_m W n : Int)) := by
  intro n
  induction n with
  | zero => exact fun _ => rfl
  | succ n ih =>
    intro hn
    have e : ax_ixw L a b (n + 1) (1, 1) = ((ax_ixw L a b n (1, 1)).1 * (if 1 < L (a + 2 + n) n then L (a + 2 + n) n else 1), (ax_ixw L a b n (1, 1)).2 * (if 1 < L (b + 2 + n) n then L (b + 2 + n) n else 1)) := rfl
    rw [e, ih (by omega), hB n n (by omega) (by omega), hW n n (by omega) (by omega), sp_mx (oB n).1 (oB n).2, sp_mx (oW n).1 (oW n).2, ← Int64.ofInt_mul, ← Int64.ofInt_mul, ← Int.natCast_mul, ← Int.natCast_mul]
    rfl
theorem sp_mpos {B : Nat → Nat → Int} : ∀ n, 0 < sp_m B n := by
  intro n
  induction n with
  | zero => exact Nat.one_pos
  | succ n ih =>
    refine Nat.mul_pos ih ?_
    split
    · decide
    · omega
/-- the two answers -/
theorem sp_val {L : ax_L} {a b w : Nat} {B D : Nat → Nat → Int} {V W : Nat → Int64} (hw : w ≤ 6) (hB : mt_lat L a B) (hW : mt_lat L b D) (oB : ∀ k, mt_ok (B k k) ∧ 0 ≤ B k k) (oD : ∀ k, mt_ok (D k k) ∧ 0 ≤ D k k) (oB2 : ∀ k j, mt_ok (B k j)) (oD2 : ∀ k j, mt_ok (D k j)) (hd : ∀ k, D k k ∣ B k k) (hV : ∀ k, k < w → V (7 * k) = Int64.ofInt (B k k)) (hR : ∀ k, k < w → W (7 * k) = Int64.ofInt (D k k)) (mB : sp_m B w < 9223372036854775808) (mD : sp_m D w < 9223372036854775808) :
    (ax_ixw L a b w (1, 1)).2 ≠ 0 ∧ ax_ixv L a w b w = ax_sn W V w := by
  have ei := sp_ixw hw hB hW oB oD w (Nat.le_refl _)
  refine ⟨by rw [ei]; exact fun z => by have := (og_zN mD).mp z; have := sp_mpos (B := D) w; omega, ?_⟩
  unfold ax_ixv
  rw [if_pos rfl, cg_rkc hW hw oD2 w (Nat.le_refl _), cg_rkc hB hw oB2 w (Nat.le_refl _), ei, sp_sn hV hR oB oD w (Nat.le_refl _)]
  obtain ⟨-, r2⟩ := sp_rk hd w
  by_cases p : ∀ k, k < w → D k k ≠ 0 → B k k ≠ 0
  · rw [if_pos (r2.mpr p), if_pos p]
    have e := sp_qm hd w p
    show Int64.ofInt (sp_m B w : Int) / Int64.ofInt (sp_m D w : Int) = _
    rw [mt_div (og_okN mB) (og_okN mD), ← e, ← Int.ofNat_tdiv, Nat.mul_div_cancel _ (sp_mpos w)]
  · rw [if_neg (fun z => p (r2.mp z)), if_neg p]

/-! ===== how great the numbers of rows that lead are: by minors of what they span ===== -/
theorem mt_g1 {N : Nat} {X : Nat → Nat → Int} {u : Nat → Int} {c : Int} {j : Nat} (h : ∀ i, i < N → c ∣ X i j) (hu : mt_sp N X u) : c ∣ u j := by
  obtain ⟨d, hd⟩ := hu
  rw [hd j]; exact gv_ss (fun i hi => gv_dm _ (h i hi))
theorem mt_dvb {g x : Int} {E : Nat} (hx : x ≠ 0) (h : g ∣ x) (hE : x.natAbs ≤ E) : g.natAbs ≤ E := by
  have := Nat.le_of_dvd (by omega) (Int.natAbs_dvd_natAbs.mpr h)
  omega
theorem mt_b1 {w N E k j : Nat} {X B : Nat → Nat → Int} (hX : ∀ r, r < N → (X r j).natAbs ≤ E) (h1 : ∀ k, mt_sp N X (B k)) (h2 : ∀ r, r < N → mt_sp w B (X r)) (hv : ∀ i, i ≠ k → B i j = 0) : (B k j).natAbs ≤ E := by
  have hd : ∀ r, r < N → B k j ∣ X r j := fun r hr => mt_g1 (fun i _ => by
    by_cases e : i = k
    · rw [e]; exact Int.dvd_refl _
    · rw [hv i e]; exact gv_d0 _) (h2 r hr)
  apply Classical.byContradiction
  intro hlt
  have hz : ∀ r, r < N → X r j = 0 := fun r hr => by
    apply Classical.byContradiction
    intro hne
    exact hlt (mt_dvb hne (hd r hr) (hX r hr))
  have := Int.zero_dvd.mp (mt_g1 (c := 0) (j := j) (fun r hr => by rw [hz r hr]; exact gv_d0 0) (h1 k))
  rw [this] at hlt; exact hlt (Nat.zero_le _)
theorem mt_b2 {w N E k e j l : Nat} {X B : Nat → Nat → Int} (hX : ∀ r j, r < N → (X r j).natAbs ≤ E) (h1 : ∀ k, mt_sp N X (B k)) (h2 : ∀ r, r < N → mt_sp w B (X r)) (hv : ∀ i, i ≠ k → i ≠ e → B i j = 0 ∧ B i l = 0) : (gv2 (B k) (B e) j l).natAbs ≤ 2 * (E * E) := by
  have hg : ∀ a b, gv2 (B k) (B e) j l ∣ gv2 (B a) (B b) j l := fun a b => by
    have z : ∀ a b, a ≠ k → a ≠ e → gv2 (B a) (B b) j l = 0 := fun a b h1 h2 => by
      obtain ⟨z1, z2⟩ := hv a h1 h2
      unfold gv2; rw [z1, z2]; simp
    by_cases a1 : a = k
    · by_cases b1 : b = e
      · rw [a1, b1]; exact Int.dvd_refl _
      · by_cases b2 : b = k
        · rw [a1, b2, gv2_z]; exact gv_d0 _
        · rw [gv2_an (B b) (B a), z b a b2 b1]; exact gv_dn (gv_d0 _)
    · by_cases a2 : a = e
      · by_cases b1 : b = k
        · rw [a2, b1, gv2_an (B k) (B e)]; exact gv_dn (Int.dvd_refl _)
        · by_cases b2 : b = e
          · rw [a2, b2, gv2_z]; exact gv_d0 _
          · rw [gv2_an (B b) (B a), z b a b1 b2]; exact gv_dn (gv_d0 _)
      · rw [z a b a1 a2]; exact gv_d0 _
  have hd : ∀ r s, r < N → s < N → gv2 (B k) (B e) j l ∣ gv2 (X r) (X s) j l := fun r s hr hs => gv2_sp (fun a b _ _ => hg a b) (h2 r hr) (h2 s hs)
  have hb : ∀ r s, r < N → s < N → (gv2 (X r) (X s) j l).natAbs ≤ 2 * (E * E) := fun r s hr hs => by
    have := mt_mm (A := E) (B := E) (hX r j hr) (hX s l hs) (hX r l hr) (hX s j hs)
    rw [Nat.mul_assoc] at this; exact this
  apply Classical.byContradiction
  intro hlt
  have hz : ∀ r s, r < N → s < N → gv2 (X r) (X s) j l = 0 := fun r s hr hs => by
    apply Classical.byContradiction
    intro hne
    exact hlt (mt_dvb hne (hd r s hr hs) (hb r s hr hs))
  have := Int.zero_dvd.mp (gv2_sp (c := 0) (j := j) (l := l) (fun r s hr hs => by rw [hz r s hr hs]; exact gv_d0 0) (h1 k) (h1 e))
  rw [this] at hlt; exact hlt (Nat.zero_le _)
theorem mt_m3b {E : Nat} {u v w : Nat → Int} (hu : ∀ j, (u j).natAbs ≤ E) (hv : ∀ j, (v j).natAbs ≤ E) (hw : ∀ j, (w j).natAbs ≤ E) (j l m : Nat) : (gv3 u v w j l m).natAbs ≤ 6 * (E * (E * E)) := by
  have m2 : ∀ j l, (gv2 v w j l).natAbs ≤ 2 * (E * E) := fun j l => by
    have := mt_mm (A := E) (B := E) (hv j) (hw l) (hv l) (hw j)
    rw [Nat.mul_assoc] at this; exact this
  have p1 : (u j * gv2 v w l m).natAbs ≤ E * (2 * (E * E)) := by rw [gr_n3]; exact Nat.mul_le_mul (hu _) (m2 _ _)
  have p2 : (u l * gv2 v w j m).natAbs ≤ E * (2 * (E * E)) := by rw [gr_n3]; exact Nat.mul_le_mul (hu _) (m2 _ _)
  have p3 : (u m * gv2 v w j l).natAbs ≤ E * (2 * (E * E)) := by rw [gr_n3]; exact Nat.mul_le_mul (hu _) (m2 _ _)
  have e : E * (2 * (E * E)) = 2 * (E * (E * E)) := by ac_rfl
  rw [e] at p1 p2 p3
  unfold gv3
  generalize E * (E * E) = F at *
  omega
theorem mt_b3 {N E : Nat} {X B : Nat → Nat → Int} (hX : ∀ r j, r < N → (X r j).natAbs ≤ E) (hB : cg_B 3 B) (h1 : ∀ k, mt_sp N X (B k)) (h2 : ∀ r, r < N → mt_sp 3 B (X r)) : (B 0 0 * B 1 1 * B 2 2).natAbs ≤ 6 * (E * (E * E)) := by
  have hd3 := (cg_d3 hB (B 0 0 * B 1 1 * B 2 2)).mp (Int.dvd_refl _)
  have hd : ∀ r s t, r < N → s < N → t < N → B 0 0 * B 1 1 * B 2 2 ∣ gv3 (X r) (X s) (X t) 0 1 2 := fun r s t hr hs ht => gv3_sp (fun a b c _ _ _ => hd3 a b c 0 1 2) (h2 r hr) (h2 s hs) (h2 t ht)
  apply Classical.byContradiction
  intro hlt
  have hz : ∀ r s t, r < N → s < N → t < N → gv3 (X r) (X s) (X t) 0 1 2 = 0 := fun r s t hr hs ht => by
    apply Classical.byContradiction
    intro hne
    exact hlt (mt_dvb hne (hd r s t hr hs ht) (mt_m3b (fun j => hX r j hr) (fun j => hX s j hs) (fun j => hX t j ht) 0 1 2))
  have e0 : gv3 (B 0) (B 1) (B 2) 0 1 2 = B 0 0 * B 1 1 * B 2 2 := by
    unfold gv3 gv2; rw [hB.low 1 0 (by omega), hB.low 2 0 (by omega), hB.low 2 1 (by omega)]; simp [Int.mul_assoc]
  have := Int.zero_dvd.mp (gv3_sp (c := 0) (j := 0) (l := 1) (m := 2) (fun r s t hr hs ht => by rw [hz r s t hr hs ht]; exact gv_d0 0) (h1 0) (h1 1) (h1 2))
  rw [e0] at this
  rw [this] at hlt; exact hlt (Nat.zero_le _)
/-- rows that lead in three places -/
theorem cg_B.three {w : Nat} {B : Nat → Nat → Int} (hw : w ≤ 3) (h : cg_B w B) : cg_B 3 B := by
  refine ⟨⟨fun k j _ hj => h.low k j hj, fun k _ => ?_, fun k _ hz j => h.z k hz j, fun k q hkq hq hne => ?_, fun k j _ hj => h.out k j (by omega)⟩, fun k j hk => h.2 k j (by omega)⟩
  · by_cases hk : k < w
    · exact h.1.2.1 k hk
    · rw [h.2 k k (by omega)]; exact Int.le_refl _
  · have hqw : q < w := by
      apply Classical.byContradiction
      intro hx; exact hne (h.2 q q (by omega))
    exact h.1.2.2.2.1 k q hkq hqw hne
theorem mt_ml1 {x y : Int} {E : Nat} (h : (x * y).natAbs ≤ E) (hx : x ≠ 0) : y.natAbs ≤ E := by
  rw [gr_n3] at h
  exact Nat.le_trans (Nat.le_mul_of_pos_left _ (by omega)) h
/-- all numbers, by the greatest number of what they span -/
theorem mt_bd {w N E : Nat} {X B : Nat → Nat → Int} (hw : w ≤ 3) (hE : 1 ≤ E) (hX : ∀ r j, r < N → (X r j).natAbs ≤ E) (hB : cg_B w B) (h1 : ∀ k, k < w → mt_sp N X (B k)) (h2 : ∀ r, r < N → mt_sp w B (X r)) :
    ((B 0 0).natAbs ≤ E ∧ (B 0 1).natAbs ≤ 2 * (E * E) ∧ (B 1 1).natAbs ≤ 2 * (E * E)) ∧ ((B 0 2).natAbs ≤ 6 * (E * (E * E)) ∧ (B 1 2).natAbs ≤ 6 * (E * (E * E)) ∧ (B 2 2).natAbs ≤ 6 * (E * (E * E))) ∧ (B 2 2 = 0 → (B 0 2).natAbs ≤ 2 * (2 * (E * E)) ∧ (B 1 2).natAbs ≤ 2 * (E * E) ∧ ∀ k e j l, (gv2 (B k) (B e) j l).natAbs ≤ 2 * (E * E)) := by
  have g1 : ∀ k, mt_sp N X (B k) := fun k => by
    by_cases hk : k < w
    · exact h1 k hk
    · exact mt_sp.zero.cg (fun j => hB.2 k j (by omega))
  have h3 := hB.three hw
  have s2 : ∀ r, r < N → mt_sp 3 B (X r) := fun r hr => mt_sp.le (fun i hi => mt_sp.row (by omega)) (h2 r hr)
  have EE : E ≤ E * E := Nat.le_mul_of_pos_left _ hE
  have EEE : E * E ≤ E * (E * E) := Nat.le_mul_of_pos_left _ hE
  have lw : ∀ k j, j < k → B k j = 0 := h3.low
  have ge : ∀ k, 0 ≤ B k k := fun k => by
    by_cases hk : k < 3
    · exact h3.1.2.1 k hk
    · rw [h3.2 k k (by omega)]; exact Int.le_refl _
  have rd : ∀ k q, k < q → B q q ≠ 0 → 0 ≤ B k q ∧ B k q < B q q := fun k q hkq hne => by
    have hq : q < 3 := by
      apply Classical.byContradiction
      intro hx; exact hne (h3.2 q q (by omega))
    exact h3.1.2.2.2.1 k q hkq hq hne
  have b00 : (B 0 0).natAbs ≤ E := mt_b1 (fun r hr => hX r 0 hr) g1 h2 (fun i hi => lw i 0 (by omega))
  have m01 : (gv2 (B 0) (B 1) 0 1).natAbs ≤ 2 * (E * E) := mt_b2 hX g1 h2 (fun i a b => ⟨lw i 0 (by omega), lw i 1 (by omega)⟩)
  have e01 : gv2 (B 0) (B 1) 0 1 = B 0 0 * B 1 1 := by unfold gv2; rw [lw 1 0 (by omega)]; simp
  have b11 : (B 1 1).natAbs ≤ 2 * (E * E) := by
    by_cases z : B 0 0 = 0
    · have := mt_b1 (k := 1) (j := 1) (fun r hr => hX r 1 hr) g1 h2 (fun i hi => by
        by_cases e : i = 0
        · subst e; exact h3.z 0 z 1
        · exact lw i 1 (by omega))
      omega
    · rw [e01] at m01; exact mt_ml1 m01 z
  have b01 : (B 0 1).natAbs ≤ 2 * (E * E) := by
    by_cases z : B 1 1 = 0
    · have := mt_b1 (k := 0) (j := 1) (fun r hr => hX r 1 hr) g1 h2 (fun i hi => by
        by_cases e : i = 1
        · subst e; exact z
        · exact lw i 1 (by omega))
      omega
    · have := rd 0 1 (by omega) z; omega
  have p3 := mt_b3 hX h3 g1 s2
  have b22 : (B 2 2).natAbs ≤ 6 * (E * (E * E)) := by
    by_cases z0 : B 0 0 = 0
    · by_cases z1 : B 1 1 = 0
      · have := mt_b1 (k := 2) (j := 2) (fun r hr => hX r 2 hr) g1 h2 (fun i hi => by
          rcases (show i = 0 ∨ i = 1 ∨ 2 < i by omega) with e | e | e
          · subst e; exact h3.z 0 z0 2
          · subst e; exact h3.z 1 z1 2
          · exact lw i 2 (by omega))
        omega
      · have m : (gv2 (B 1) (B 2) 1 2).natAbs ≤ 2 * (E * E) := mt_b2 hX g1 h2 (fun i a b => by
          by_cases e : i = 0
          · subst e; exact ⟨h3.z 0 z0 1, h3.z 0 z0 2⟩
          · exact ⟨lw i 1 (by omega), lw i 2 (by omega)⟩)
        have e : gv2 (B 1) (B 2) 1 2 = B 1 1 * B 2 2 := by unfold gv2; rw [lw 2 1 (by omega)]; simp
        rw [e] at m
        have := mt_ml1 m z1; omega
    · by_cases z1 : B 1 1 = 0
      · have m : (gv2 (B 0) (B 2) 0 2).natAbs ≤ 2 * (E * E) := mt_b2 hX g1 h2 (fun i a b => by
          by_cases e : i = 1
          · subst e; exact ⟨h3.z 1 z1 0, h3.z 1 z1 2⟩
          · exact ⟨lw i 0 (by omega), lw i 2 (by omega)⟩)
        have e : gv2 (B 0) (B 2) 0 2 = B 0 0 * B 2 2 := by unfold gv2; rw [lw 2 0 (by omega)]; simp
        rw [e] at m
        have := mt_ml1 m z0; omega
      · rw [Int.mul_assoc] at p3
        exact mt_ml1 (mt_ml1 p3 z0) z1
  have all2 : B 2 2 = 0 → ∀ k e j l, (gv2 (B k) (B e) j l).natAbs ≤ 2 * (E * E) := fun z k e j l => by
    have zz : ∀ i, 2 ≤ i → ∀ j, B i j = 0 := fun i hi j => by
      by_cases e : i = 2
      · subst e; exact h3.z 2 z j
      · exact h3.2 i j (by omega)
    have m : (gv2 (B 0) (B 1) j l).natAbs ≤ 2 * (E * E) := mt_b2 hX g1 h2 (fun i a b => ⟨zz i (by omega) j, zz i (by omega) l⟩)
    by_cases k2 : 2 ≤ k
    · unfold gv2; rw [zz k k2 j, zz k k2 l]; simp
    by_cases e2 : 2 ≤ e
    · unfold gv2; rw [zz e e2 j, zz e e2 l]; simp
    rcases (show k = e ∨ (k = 0 ∧ e = 1) ∨ (k = 1 ∧ e = 0) by omega) with h | ⟨rfl, rfl⟩ | ⟨rfl, rfl⟩
    · subst h; rw [gv2_z]; exact Nat.zero_le _
    · exact m
    · rw [gv2_an, Int.natAbs_neg]; exact m
  have b12z : B 2 2 = 0 → (B 1 2).natAbs ≤ 2 * (E * E) := fun z => by
    by_cases z0 : B 0 0 = 0
    · have := mt_b1 (k := 1) (j := 2) (fun r hr => hX r 2 hr) g1 h2 (fun i hi => by
        rcases (show i = 0 ∨ i = 2 ∨ 2 < i by omega) with e | e | e
        · subst e; exact h3.z 0 z0 2
        · subst e; exact z
        · exact lw i 2 (by omega))
      omega
    · have m := all2 z 0 1 0 2
      have e : gv2 (B 0) (B 1) 0 2 = B 0 0 * B 1 2 := by unfold gv2; rw [lw 1 0 (by omega)]; simp
      rw [e] at m; exact mt_ml1 m z0
  have b02z : B 2 2 = 0 → (B 0 2).natAbs ≤ 2 * (2 * (E * E)) := fun z => by
    by_cases z1 : B 1 1 = 0
    · have := mt_b1 (k := 0) (j := 2) (fun r hr => hX r 2 hr) g1 h2 (fun i hi => by
        rcases (show i = 1 ∨ i = 2 ∨ 2 < i by omega) with e | e | e
        · subst e; exact h3.z 1 z1 2
        · subst e; exact z
        · exact lw i 2 (by omega))
      omega
    · have m := all2 z 0 1 1 2
      have c := b12z z
      obtain ⟨r1, r2⟩ := rd 0 1 (by omega) z1
      unfold gv2 at m
      -- B01 B12 - B02 B11
      have q1 : (B 0 1 * B 1 2).natAbs ≤ (B 1 1).natAbs * (2 * (E * E)) := by rw [gr_n3]; exact Nat.mul_le_mul (by omega) c
      have q2 : (B 0 2 * B 1 1).natAbs ≤ (B 1 1).natAbs * (2 * (E * E)) + 2 * (E * E) := by omega
      rw [gr_n3, Nat.mul_comm] at q2
      have hp : 0 < (B 1 1).natAbs := by omega
      have q3 : 2 * (E * E) ≤ (B 1 1).natAbs * (2 * (E * E)) := Nat.le_mul_of_pos_left _ hp
      refine Nat.le_of_mul_le_mul_left (?_ : (B 1 1).natAbs * (B 0 2).natAbs ≤ (B 1 1).natAbs * (2 * (2 * (E * E)))) hp
      have q4 : (B 1 1).natAbs * (2 * (2 * (E * E))) = 2 * ((B 1 1).natAbs * (2 * (E * E))) := by ac_rfl
      omega
  have E4 : 2 * (2 * (E * E)) ≤ 6 * (E * (E * E)) := by omega
  refine ⟨⟨b00, b01, b11⟩, ⟨?_, ?_, b22⟩, fun z => ⟨b02z z, b12z z, all2 z⟩⟩
  · by_cases z : B 2 2 = 0
    · have := b02z z; omega
    · have := rd 0 2 (by omega) z; omega
  · by_cases z : B 2 2 = 0
    · have := b12z z; omega
    · have := rd 1 2 (by omega) z; omega

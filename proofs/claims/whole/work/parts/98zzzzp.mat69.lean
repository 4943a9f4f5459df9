/-! ===== coordinates in rows that lead ===== -/
/-- the place of the lead with this number -/
def co_l (B : Nat → Nat → Int) : Nat → Nat → Nat
  | 0, _ => 0
  | w + 1, c => if B w w ≠ 0 ∧ cg_rk B w = c then w else co_l B w c
theorem co_l.at {B : Nat → Nat → Int} {n : Nat} (h : B n n ≠ 0) : ∀ w, n < w → co_l B w (cg_rk B n) = n := by
  intro w
  induction w with
  | zero => intro hw; exact absurd hw (Nat.not_lt_zero _)
  | succ w ih =>
    intro hw
    show (if _ then _ else _) = n
    by_cases e : n = w
    · subst e; rw [if_pos ⟨h, rfl⟩]
    · have h1 := cg_rk_mono B (m := n + 1) w (by omega)
      rw [cg_rk_s h] at h1
      rw [if_neg (fun z => by have := z.2; omega)]
      exact ih (by omega)
theorem co_l.of {B : Nat → Nat → Int} {c : Nat} : ∀ w, c < cg_rk B w → ∃ n, n < w ∧ B n n ≠ 0 ∧ cg_rk B n = c ∧ co_l B w c = n := by
  intro w
  induction w with
  | zero => intro h; exact absurd h (Nat.not_lt_zero _)
  | succ w ih =>
    intro h
    by_cases hz : B w w ≠ 0 ∧ cg_rk B w = c
    · exact ⟨w, by omega, hz.1, hz.2, if_pos hz⟩
    · have e : cg_rk B (w + 1) = cg_rk B w + (if B w w = 0 then 0 else 1) := rfl
      have hc : c < cg_rk B w := by
        by_cases z : B w w = 0
        · rw [e, if_pos z] at h; omega
        · rw [e, if_neg z] at h
          have : cg_rk B w ≠ c := fun y => hz ⟨z, y⟩
          omega
      obtain ⟨n, n1, n2, n3, n4⟩ := ih hc
      exact ⟨n, by omega, n2, n3, by show (if _ then _ else _) = n; rw [if_neg hz]; exact n4⟩
/-- a sum over leads -/
theorem co_s {B : Nat → Nat → Int} {f : Nat → Int} {W : Nat} (hf : ∀ n, n < W → B n n = 0 → f n = 0) : ∀ w, w ≤ W → mt_s (fun c => f (co_l B W c)) (cg_rk B w) = mt_s f w := by
  intro w
  induction w with
  | zero => exact fun _ => rfl
  | succ w ih =>
    intro hw
    have e : cg_rk B (w + 1) = cg_rk B w + (if B w w = 0 then 0 else 1) := rfl
    by_cases z : B w w = 0
    · rw [e, if_pos z]
      show mt_s _ (cg_rk B w) = mt_s f w + f w
      rw [ih (by omega), hf w (by omega) z, Int.add_zero]
    · rw [e, if_neg z]
      show mt_s _ (cg_rk B w) + f (co_l B W (cg_rk B w)) = mt_s f w + f w
      rw [ih (by omega), co_l.at z W (by omega)]
def co_c (B : Nat → Nat → Int) (v : Nat → Int) (n : Nat) : Int := if B n n = 0 then 0 else mt_rf B 0 n v n / B n n
theorem co_rf {w : Nat} {B : Nat → Nat → Int} {v : Nat → Int} (hB : mt_hn w B) (hv : mt_sp w B v) : ∀ n, n ≤ w → mt_sp w B (mt_rf B 0 n v) ∧ (∀ j, j < n → mt_rf B 0 n v j = 0) ∧ ∀ j, v j = mt_rf B 0 n v j + mt_s (fun k => co_c B v k * B k j) n := by
  intro n
  induction n with
  | zero => exact fun _ => ⟨hv, fun j hj => absurd hj (Nat.not_lt_zero _), fun j => (Int.add_zero _).symm⟩
  | succ n ih =>
    intro hn
    obtain ⟨h1, h2, h3⟩ := ih (by omega)
    have e : ∀ j, mt_rf B 0 (n + 1) v j = if B n n = 0 then mt_rf B 0 n v j else mt_rf B 0 n v j - (mt_rf B 0 n v n / B n n) * B n j := fun j => by
      show (if B (0 + n) (0 + n) = 0 then _ else mt_rf B 0 n v j - (mt_rf B 0 n v (0 + n) / B (0 + n) (0 + n)) * B (0 + n) j) = _
      rw [Nat.zero_add]
    obtain ⟨c, hc⟩ := id h1
    have q : mt_rf B 0 n v n = c n * B n n := by
      rw [hc n]
      exact hB.ec.at (by omega) (fun j hj => by rw [← hc j]; exact h2 j hj)
    refine ⟨?_, fun j hj => ?_, fun j => ?_⟩
    · by_cases z : B n n = 0
      · exact h1.cg (fun j => by rw [e j, if_pos z])
      · exact (h1.sub (mt_rf B 0 n v n / B n n) (mt_sp.row (show n < w by omega))).cg (fun j => by rw [e j, if_neg z])
    · rw [e j]
      by_cases z : B n n = 0
      · rw [if_pos z]
        by_cases ej : j = n
        · rw [ej, q, z, Int.mul_zero]
        · exact h2 j (by omega)
      · rw [if_neg z]
        by_cases ej : j = n
        · subst ej; rw [q, Int.mul_ediv_cancel _ z]; omega
        · rw [h2 j (by omega), hB.1 n j (by omega) (by omega), Int.mul_zero]; rfl
    · show v j = _ + (mt_s (fun k => co_c B v k * B k j) n + co_c B v n * B n j)
      rw [e j, h3 j]
      unfold co_c
      by_cases z : B n n = 0
      · rw [if_pos z, if_pos z, Int.zero_mul]; omega
      · rw [if_neg z, if_neg z]; omega
/-- what lies in the span, told by coordinates -/
theorem co_c.sum {w : Nat} {B : Nat → Nat → Int} {v : Nat → Int} (hB : mt_hn w B) (hv : mt_sp w B v) (j : Nat) : v j = mt_s (fun k => co_c B v k * B k j) w := by
  obtain ⟨-, -, h3⟩ := co_rf hB hv w (Nat.le_refl _)
  rw [h3 j, gz_0 hB hv j, Int.zero_add]
theorem co_c.ex {w n : Nat} {B : Nat → Nat → Int} {v : Nat → Int} (hB : mt_hn w B) (hv : mt_sp w B v) (hn : n < w) : mt_rf B 0 n v n = co_c B v n * B n n := by
  obtain ⟨h1, h2, -⟩ := co_rf hB hv n (by omega)
  obtain ⟨c, hc⟩ := id h1
  have q : mt_rf B 0 n v n = c n * B n n := by
    rw [hc n]
    exact hB.ec.at hn (fun j hj => by rw [← hc j]; exact h2 j hj)
  unfold co_c
  by_cases z : B n n = 0
  · rw [if_pos z, q, z, Int.mul_zero, Int.zero_mul]
  · rw [if_neg z, q, Int.mul_ediv_cancel _ z]
theorem co_c.z {n : Nat} {B : Nat → Nat → Int} {v : Nat → Int} (h : B n n = 0) : co_c B v n = 0 := if_pos h
/-- coordinates stay small, three places -/
theorem co_c.b {w V : Nat} {B : Nat → Nat → Int} {v : Nat → Int} (hw : w ≤ 3) (hB : mt_hn w B) (hv : mt_sp w B v) (hV : ∀ j, j < w → (v j).natAbs ≤ V) : ∀ n, n < w → (co_c B v n).natAbs ≤ 4 * V := by
  have key : ∀ n, n < w → B n n ≠ 0 → ∀ S : Nat, (mt_rf B 0 n v n).natAbs ≤ V + S * (B n n).natAbs → (co_c B v n).natAbs ≤ V + S := fun n hn hz S h => by
    rw [co_c.ex hB hv hn, Int.natAbs_mul] at h
    have h1 : V ≤ V * (B n n).natAbs := Nat.le_mul_of_pos_right _ (by omega)
    have h2 : (co_c B v n).natAbs * (B n n).natAbs ≤ (V + S) * (B n n).natAbs := by rw [Nat.add_mul]; omega
    exact Nat.le_of_mul_le_mul_right h2 (by omega)
  have rf : ∀ n, n < w → mt_rf B 0 n v n = v n - mt_s (fun k => co_c B v k * B k n) n := fun n hn => by
    have := (co_rf hB hv n (by omega)).2.2 n
    omega
  have tm : ∀ k n, k < n → n < w → B n n ≠ 0 → ∀ C : Nat, (co_c B v k).natAbs ≤ C → (co_c B v k * B k n).natAbs ≤ C * (B n n).natAbs := fun k n hkn hn hz C hC => by
    have := hB.2.2.2.1 k n hkn hn hz
    rw [Int.natAbs_mul]; exact Nat.mul_le_mul hC (by omega)
  have c0 : 0 < w → (co_c B v 0).natAbs ≤ V := fun h => by
    by_cases z : B 0 0 = 0
    · rw [co_c.z z]; exact Nat.zero_le _
    · have e := rf 0 h
      have e2 : mt_s (fun k => co_c B v k * B k 0) 0 = 0 := rfl
      have := hV 0 h
      have := key 0 h z 0 (by rw [e, e2]; omega)
      omega
  have c1 : 1 < w → (co_c B v 1).natAbs ≤ 2 * V := fun h => by
    by_cases z : B 1 1 = 0
    · rw [co_c.z z]; exact Nat.zero_le _
    · have e := rf 1 h
      have e2 : mt_s (fun k => co_c B v k * B k 1) 1 = 0 + co_c B v 0 * B 0 1 := rfl
      have t0 := tm 0 1 (by omega) h z V (c0 (by omega))
      have := hV 1 h
      have := key 1 h z V (by rw [e, e2]; omega)
      omega
  have c2 : 2 < w → (co_c B v 2).natAbs ≤ 4 * V := fun h => by
    by_cases z : B 2 2 = 0
    · rw [co_c.z z]; exact Nat.zero_le _
    · have e := rf 2 h
      have e2 : mt_s (fun k => co_c B v k * B k 2) 2 = 0 + co_c B v 0 * B 0 2 + co_c B v 1 * B 1 2 := rfl
      have t0 := tm 0 2 (by omega) h z V (c0 (by omega))
      have t1 := tm 1 2 (by omega) h z (2 * V) (c1 (by omega))
      have := hV 2 h
      have := key 2 h z (3 * V) (by
        rw [e, e2, show 3 * V * (B 2 2).natAbs = V * (B 2 2).natAbs + 2 * V * (B 2 2).natAbs by rw [← Nat.add_mul]; congr 1; omega]
        generalize V * (B 2 2).natAbs = x1 at *
        generalize 2 * V * (B 2 2).natAbs = x2 at *
        omega)
      omega
  intro n hn
  rcases (show n = 0 ∨ n = 1 ∨ n = 2 by omega) with rfl | rfl | rfl
  · have := c0 hn; omega
  · have := c1 hn; omega
  · exact c2 hn
/-- coordinates by leads, one behind the other -/
def co (B : Nat → Nat → Int) (w : Nat) (v : Nat → Int) : Nat → Int := fun c => if c < cg_rk B w then co_c B v (co_l B w c) else 0
/-- what is told by coordinates -/
def co_P (B : Nat → Nat → Int) (w : Nat) (f : Nat → Int) : Nat → Int := fun j => mt_s (fun c => f c * B (co_l B w c) j) (cg_rk B w)
theorem co.P {w : Nat} {B : Nat → Nat → Int} {v : Nat → Int} (hB : mt_hn w B) (hv : mt_sp w B v) (j : Nat) : co_P B w (co B w v) j = v j := by
  rw [co_c.sum hB hv j, ← co_s (B := B) (f := fun k => co_c B v k * B k j) (W := w) (fun n _ z => by rw [co_c.z z, Int.zero_mul]) w (Nat.le_refl _)]
  exact mt_s_cg (fun c hc => by unfold co; rw [if_pos hc])
theorem co_P.lin {B : Nat → Nat → Int} {w : Nat} (f g : Nat → Int) (c : Int) (z : Nat) : co_P B w (fun i => f i + c * g i) z = co_P B w f z + c * co_P B w g z := by
  unfold co_P
  rw [← mt_s_mul, ← mt_s_add]
  exact mt_s_cg (fun i _ => by rw [Int.add_mul, Int.mul_assoc])
theorem co_P.zr {B : Nat → Nat → Int} {w : Nat} (z : Nat) : co_P B w (fun _ => 0) z = 0 := mt_s_0 (fun i _ => Int.zero_mul _)
/-- rows that lead are told in one way -/
theorem co_P.inj {w : Nat} {B : Nat → Nat → Int} {f : Nat → Int} (hB : mt_hn w B) (h : ∀ j, co_P B w f j = 0) : ∀ c, c < cg_rk B w → f c = 0 := by
  have e : ∀ j, mt_s (fun n => (if B n n = 0 then 0 else f (cg_rk B n)) * B n j) w = 0 := fun j => by
    rw [← co_s (B := B) (f := fun n => (if B n n = 0 then 0 else f (cg_rk B n)) * B n j) (W := w) (fun n _ z => by rw [if_pos z, Int.zero_mul]) w (Nat.le_refl _)]
    refine (mt_s_cg (g := fun c => f c * B (co_l B w c) j) ?_).trans (h j)
    exact (fun c hc => by
      obtain ⟨n, -, n2, n3, n4⟩ := co_l.of w hc
      rw [n4, if_neg n2, n3])
  intro c hc
  obtain ⟨n, n1, n2, n3, n4⟩ := co_l.of w hc
  have := hB.ec.lead (q := w) (fun j _ => e j) n n1 n1 n
  rw [if_neg n2, n3] at this
  rcases Int.mul_eq_zero.mp this with z | z
  · exact z
  · exact absurd z n2
/-- one group told twice: by what is reached, and by a kernel -/
theorem co_two {m n ρ : Nat} {R O N h u : Nat → Nat → Int} {D : (Nat → Int) → Nat → Int} (hR : mt_hn m R) (eρ : cg_rk R m = ρ)
    (hD : ∀ f g c z, D (fun i => f i + c * g i) z = D f z + c * D g z) (h0 : ∀ z, D (fun _ => 0) z = 0)
    (hO : ∀ i, i < m → mt_sp m R (O i))
    (hu : ∀ i, i < n → ∀ z, co_P R m (u i) z = D (gd_E i) z) (uz : ∀ i j, ρ ≤ j → u i j = 0)
    (hh : ∀ k, k < ρ → mt_sp m O (fun j => R (co_l R m k) j - D (h k) j)) (hz : ∀ k j, n ≤ j → h k j = 0)
    (hN : ∀ i, i < n → mt_sp m O (D (N i))) (Nz : ∀ i j, n ≤ j → N i j = 0)
    (hK : ∀ y, (∀ j, n ≤ j → y j = 0) → mt_sp m O (D y) → mt_sp n N y) :
    (∀ k, k < ρ → mt_sp m (fun i => co R m (O i)) (fun j => gd_E k j - mt_s (fun i => h k i * u i j) n)) ∧
    (∀ i, i < n → mt_sp m (fun i => co R m (O i)) (fun j => mt_s (fun l => N i l * u l j) n)) ∧
    (∀ i, i < m → mt_sp n N (fun j => mt_s (fun k => co R m (O i) k * h k j) ρ)) ∧
    (∀ i, i < n → mt_sp n N (fun j => gd_E i j - mt_s (fun k => u i k * h k j) ρ)) := by
  subst eρ
  have cz : ∀ v j, cg_rk R m ≤ j → co R m v j = 0 := fun v j hj => if_neg (by omega)
  have Pl := fun f g c z => co_P.lin (B := R) (w := m) f g c z
  have P0 := fun z => co_P.zr (B := R) (w := m) z
  -- back from what is told
  have back : ∀ f : Nat → Int, (∀ j, cg_rk R m ≤ j → f j = 0) → mt_sp m O (co_P R m f) → mt_sp m (fun i => co R m (O i)) f := fun f fz hf => by
    obtain ⟨a, ha⟩ := hf
    have e : ∀ j, co_P R m (fun c => f c - mt_s (fun i => a i * co R m (O i) c) m) j = 0 := fun j => by
      rw [iy_sub Pl, iy_s Pl P0 a (fun i => co R m (O i)) j m, ha j]
      rw [mt_s_cg (f := fun i => a i * co_P R m (co R m (O i)) j) (g := fun i => a i * O i j) (fun i hi => by rw [co.P hR (hO i hi) j])]
      omega
    refine ⟨a, fun j => ?_⟩
    by_cases c : j < cg_rk R m
    · have := co_P.inj hR e j c
      show f j = mt_s (fun i => a i * co R m (O i) j) m
      omega
    · rw [fz j (by omega)]
      exact (mt_s_0 (fun i _ => by show a i * co R m (O i) j = 0; rw [cz _ j (by omega), Int.mul_zero])).symm
  have Dn : ∀ y : Nat → Int, (∀ j, n ≤ j → y j = 0) → ∀ z, D y z = co_P R m (fun c => mt_s (fun i => y i * u i c) n) z := fun y hy z => by
    rw [iy_s Pl P0 y u z n]
    rw [mt_s_cg (f := fun i => y i * co_P R m (u i) z) (g := fun i => y i * D (gd_E i) z) (fun i hi => by rw [hu i hi z])]
    rw [← iy_s hD h0 y gd_E z n, show (fun j => mt_s (fun i => y i * gd_E i j) n) = y from funext fun j => iy_E hy j]
  have PE : ∀ k, k < cg_rk R m → ∀ z, co_P R m (gd_E k) z = R (co_l R m k) z := fun k hk z => by
    show mt_s (fun c => gd_E k c * R (co_l R m c) z) (cg_rk R m) = _
    rw [mt_s_one (q := k) hk (fun c _ hc => by rw [gd_En hc, Int.zero_mul]), gd_Ei, Int.one_mul]
  have uu : ∀ (c : Nat → Int) (j : Nat), cg_rk R m ≤ j → mt_s (fun i => c i * u i j) n = 0 := fun c j hj => mt_s_0 (fun i _ => by rw [uz i j hj, Int.mul_zero])
  refine ⟨fun k hk => ?_, fun i hi => ?_, fun i hi => ?_, fun i hi => ?_⟩
  · refine back _ (fun j hj => by rw [uu _ j hj, gd_En (by omega)]; rfl) ((hh k hk).cg (fun z => ?_))
    rw [iy_sub Pl, PE k hk, ← Dn (h k) (hz k)]
  · refine back _ (fun j hj => uu _ j hj) ((hN i hi).cg (fun z => ?_))
    rw [← Dn (N i) (Nz i)]
  · refine hK _ (fun j hj => mt_s_0 (fun k _ => by rw [hz k j hj, Int.mul_zero])) ?_
    have e : mt_sp m O (fun z => mt_s (fun k => co R m (O i) k * (fun k j => R (co_l R m k) j - D (h k) j) k z) (cg_rk R m)) := mt_sp.sum (fun k hk => hh k hk)
    refine ((mt_sp.row (X := O) hi).sub 1 e).cg (fun z => ?_)
    rw [iy_s hD h0 (co R m (O i)) h z, ← co.P hR (hO i hi) z]
    show _ = mt_s (fun c => co R m (O i) c * R (co_l R m c) z) (cg_rk R m) - 1 * mt_s (fun k => co R m (O i) k * (R (co_l R m k) z - D (h k) z)) (cg_rk R m)
    rw [mt_s_cg (f := fun k => co R m (O i) k * (R (co_l R m k) z - D (h k) z)) (g := fun k => co R m (O i) k * R (co_l R m k) z + (-1) * (co R m (O i) k * D (h k) z)) (fun k _ => by rw [Int.mul_sub]; omega), mt_s_add, mt_s_mul]
    omega
  · refine hK _ (fun j hj => by rw [mt_s_0 (fun k _ => by rw [hz k j hj, Int.mul_zero]), gd_En (by omega)]; rfl) ?_
    have e : mt_sp m O (fun z => mt_s (fun k => u i k * (fun k j => R (co_l R m k) j - D (h k) j) k z) (cg_rk R m)) := mt_sp.sum (fun k hk => hh k hk)
    refine e.cg (fun z => ?_)
    rw [iy_sub hD, iy_s hD h0 (u i) h z, ← hu i hi z]
    show mt_s (fun c => u i c * R (co_l R m c) z) (cg_rk R m) - _ = mt_s (fun k => u i k * (R (co_l R m k) z - D (h k) z)) (cg_rk R m)
    rw [mt_s_cg (f := fun k => u i k * (R (co_l R m k) z - D (h k) z)) (g := fun k => u i k * R (co_l R m k) z + (-1) * (u i k * D (h k) z)) (fun k _ => by rw [Int.mul_sub]; omega), mt_s_add, mt_s_mul]
    omega

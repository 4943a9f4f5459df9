/-! ===== determinants of any size, by the first column ===== -/
def gd_s (i : Nat) : Int := if i % 2 = 0 then 1 else -1
def gd_k (i a : Nat) : Nat := if a < i then a else a + 1
def gd_m (i : Nat) (M : Nat → Nat → Int) : Nat → Nat → Int := fun a b => M (gd_k i a) (b + 1)
def gd : Nat → (Nat → Nat → Int) → Int
  | 0, _ => 1
  | n + 1, M => mt_s (fun i => gd_s i * (M i 0 * gd n (gd_m i M))) (n + 1)
theorem gd_ss (i : Nat) : gd_s (i + 1) = -gd_s i := by
  unfold gd_s
  rcases Nat.mod_two_eq_zero_or_one i with h | h
  · rw [if_pos h, if_neg (by omega)]
  · rw [if_pos (show (i + 1) % 2 = 0 by omega), if_neg (show ¬ i % 2 = 0 by omega)]; rfl
theorem gd_sa (i : Nat) (x : Int) : (gd_s i * x).natAbs = x.natAbs := by unfold gd_s; split <;> omega
theorem gd_kn (i a : Nat) : gd_k i a ≠ i := by unfold gd_k; split <;> omega
theorem gd_kl {i a n : Nat} (ha : a < n) : gd_k i a < n + 1 := by unfold gd_k; split <;> omega
theorem gd_cg : ∀ (n : Nat) {M N : Nat → Nat → Int}, (∀ i j, i < n → j < n → M i j = N i j) → gd n M = gd n N := by
  intro n
  induction n with
  | zero => exact fun _ => rfl
  | succ n ih =>
    intro M N h
    refine mt_s_cg (fun i hi => ?_)
    rw [h i 0 hi (by omega), ih (M := gd_m i M) (N := gd_m i N) (fun a b ha hb => h _ _ (gd_kl ha) (by omega))]
theorem gd_mi {i : Nat} {M : Nat → Nat → Int} {u : Nat → Int} : gd_m i (mt_set M i u) = gd_m i M := by
  funext a b
  show mt_set M i u (gd_k i a) (b + 1) = M (gd_k i a) (b + 1)
  rw [mt_set_n (gd_kn i a)]
theorem gd_mr {i r : Nat} {M : Nat → Nat → Int} {u : Nat → Int} (h : r ≠ i) : gd_m i (mt_set M r u) = mt_set (gd_m i M) (if r < i then r else r - 1) (fun b => u (b + 1)) := by
  funext a b
  show mt_set M r u (gd_k i a) (b + 1) = _
  by_cases c : gd_k i a = r
  · have e : a = if r < i then r else r - 1 := by unfold gd_k at c; split at c <;> split <;> omega
    rw [c, mt_set_i, ← e, mt_set_i]
  · have e : a ≠ if r < i then r else r - 1 := by
      intro e
      apply c
      unfold gd_k; split at e <;> split <;> omega
    rw [mt_set_n c, mt_set_n e]; rfl
theorem gd_lin : ∀ (n : Nat) {M : Nat → Nat → Int} {r : Nat} (x y : Int) (u v : Nat → Int), r < n → gd n (mt_set M r (fun j => x * u j + y * v j)) = x * gd n (mt_set M r u) + y * gd n (mt_set M r v) := by
  intro n
  induction n with
  | zero => intro M r x y u v h; exact absurd h (Nat.not_lt_zero _)
  | succ n ih =>
    intro M r x y u v hr
    show mt_s _ (n + 1) = x * mt_s _ (n + 1) + y * mt_s _ (n + 1)
    rw [← mt_s_mul, ← mt_s_mul, ← mt_s_add]
    refine mt_s_cg (fun i hi => ?_)
    by_cases c : r = i
    · subst c
      rw [gd_mi, gd_mi, gd_mi, mt_set_i, mt_set_i, mt_set_i]
      generalize gd n (gd_m r M) = g
      generalize gd_s r = s
      grind
    · rw [gd_mr c, gd_mr c, gd_mr c, mt_set_n (Ne.symm c), mt_set_n (Ne.symm c), mt_set_n (Ne.symm c), ih x y (fun b => u (b + 1)) (fun b => v (b + 1)) (by split <;> omega)]
      generalize gd n (mt_set (gd_m i M) (if r < i then r else r - 1) (fun b => u (b + 1))) = g1
      generalize gd n (mt_set (gd_m i M) (if r < i then r else r - 1) (fun b => v (b + 1))) = g2
      generalize gd_s i = s
      generalize M i 0 = t
      grind
theorem mt_s_two {f : Nat → Int} {r n : Nat} (hr : r + 1 < n) (h : ∀ i, i < n → i ≠ r → i ≠ r + 1 → f i = 0) : mt_s f n = f r + f (r + 1) := by
  rw [mt_s_split (b := r) (by omega)]
  congr 1
  rw [mt_s_one (q := r + 1) hr (fun i hi hne => by
    by_cases c : i = r
    · rw [if_pos c]
    · rw [if_neg c]; exact h i hi c hne), if_neg (by omega)]
theorem gd_adj : ∀ (n : Nat) {M : Nat → Nat → Int} {r : Nat}, r + 1 < n → (∀ j, M r j = M (r + 1) j) → gd n M = 0 := by
  intro n
  induction n with
  | zero => intro M r h; exact absurd h (Nat.not_lt_zero _)
  | succ n ih =>
    intro M r hr he
    show mt_s _ (n + 1) = 0
    rw [mt_s_two hr (fun i hi h1 h2 => by
      rw [ih (M := gd_m i M) (r := if r < i then r else r - 1) (by split <;> omega) (fun j => by
        show M (gd_k i _) (j + 1) = M (gd_k i _) (j + 1)
        by_cases c : r < i
        · rw [if_pos c, show gd_k i r = r from if_pos c, show gd_k i (r + 1) = r + 1 from if_pos (by omega)]; exact he _
        · rw [if_neg c, show gd_k i (r - 1) = r from by unfold gd_k; rw [if_neg (by omega)]; omega, show gd_k i (r - 1 + 1) = r + 1 from by unfold gd_k; rw [if_neg (by omega)]; omega]; exact he _), Int.mul_zero, Int.mul_zero])]
    have e : gd n (gd_m (r + 1) M) = gd n (gd_m r M) := gd_cg n (fun a b _ _ => by
      show M (gd_k (r + 1) a) (b + 1) = M (gd_k r a) (b + 1)
      by_cases c : a = r
      · subst c
        rw [show gd_k (a + 1) a = a from if_pos (by omega), show gd_k a a = a + 1 from if_neg (by omega)]; exact he _
      · by_cases d : a < r
        · rw [show gd_k (r + 1) a = a from if_pos (by omega), show gd_k r a = a from if_pos d]
        · rw [show gd_k (r + 1) a = a + 1 from if_neg (by omega), show gd_k r a = a + 1 from if_neg d])
    rw [e, gd_ss, he 0]
    generalize gd n (gd_m r M) = g
    grind
theorem mt_set_self {M : Nat → Nat → Int} {r : Nat} : mt_set M r (M r) = M := by
  funext k
  by_cases c : k = r
  · rw [c, mt_set_i]
  · rw [mt_set_n c]
theorem mt_set_comm {M : Nat → Nat → Int} {r s : Nat} {u v : Nat → Int} (h : r ≠ s) : mt_set (mt_set M r u) s v = mt_set (mt_set M s v) r u := by
  funext k
  by_cases c : k = s
  · subst c; rw [mt_set_i, mt_set_n (Ne.symm h), mt_set_i]
  · rw [mt_set_n c]
    by_cases d : k = r
    · subst d; rw [mt_set_i, mt_set_i]
    · rw [mt_set_n d, mt_set_n d, mt_set_n c]
theorem mt_set_set {M : Nat → Nat → Int} {r : Nat} {u v : Nat → Int} : mt_set (mt_set M r u) r v = mt_set M r v := by
  funext k
  by_cases c : k = r
  · subst c; rw [mt_set_i, mt_set_i]
  · rw [mt_set_n c, mt_set_n c, mt_set_n c]
theorem gd_swa {n r : Nat} {M : Nat → Nat → Int} {u v : Nat → Int} (hr : r + 1 < n) : gd n (mt_set (mt_set M r v) (r + 1) u) = -gd n (mt_set (mt_set M r u) (r + 1) v) := by
  have z : ∀ x : Nat → Int, gd n (mt_set (mt_set M r x) (r + 1) x) = 0 := fun x => gd_adj n hr (fun j => by rw [mt_set_n (by omega), mt_set_i, mt_set_i])
  have e := z (fun j => 1 * u j + 1 * v j)
  rw [gd_lin n 1 1 u v hr, mt_set_comm (by omega), gd_lin n 1 1 u v (by omega), mt_set_comm (by omega : r ≠ r + 1), gd_lin n 1 1 u v (by omega), mt_set_comm (by omega : r + 1 ≠ r), mt_set_comm (by omega : r + 1 ≠ r), mt_set_comm (by omega : r + 1 ≠ r), mt_set_comm (by omega : r + 1 ≠ r), z u, z v] at e
  omega
theorem gd_eq : ∀ (d : Nat) {n r : Nat} {M : Nat → Nat → Int}, r + 1 + d < n → (∀ j, M r j = M (r + 1 + d) j) → gd n M = 0 := by
  intro d
  induction d with
  | zero => intro n r M h he; exact gd_adj n h he
  | succ d ih =>
    intro n r M h he
    have e1 : gd n M = gd n (mt_set (mt_set M (r + 1 + d) (M (r + 1 + d))) (r + 1 + d + 1) (M (r + 1 + d + 1))) := by
      rw [mt_set_self, mt_set_self]
    rw [e1, gd_swa (by omega)]
    rw [ih (M := mt_set (mt_set M (r + 1 + d) (M (r + 1 + d + 1))) (r + 1 + d + 1) (M (r + 1 + d))) (r := r) (by omega) (fun j => by
      rw [mt_set_n (by omega), mt_set_n (by omega), mt_set_n (by omega), mt_set_i]; exact he j)]
    rfl
/-- two rows alike -/
theorem gd_z {n r s : Nat} {M : Nat → Nat → Int} (hr : r < n) (hs : s < n) (hrs : r ≠ s) (he : ∀ j, M r j = M s j) : gd n M = 0 := by
  rcases Nat.lt_or_ge r s with h | h
  · exact gd_eq (s - (r + 1)) (r := r) (by omega) (fun j => by rw [show r + 1 + (s - (r + 1)) = s by omega]; exact he j)
  · exact gd_eq (r - (s + 1)) (r := s) (by omega) (fun j => by rw [show s + 1 + (r - (s + 1)) = r by omega]; exact (he j).symm)
theorem gd_add {n r s : Nat} {M : Nat → Nat → Int} (x y : Int) (hr : r < n) (hs : s < n) (hrs : r ≠ s) : gd n (mt_set M r (fun j => x * M r j + y * M s j)) = x * gd n M := by
  rw [gd_lin n x y (M r) (M s) hr, mt_set_self, gd_z (M := mt_set M r (M s)) hr hs hrs (fun j => by rw [mt_set_i, mt_set_n (Ne.symm hrs)])]
  omega
/-- two rows change places -/
theorem gd_sw {n r s : Nat} {M : Nat → Nat → Int} (hr : r < n) (hs : s < n) (hrs : r ≠ s) : gd n (mt_set (mt_set M r (M s)) s (M r)) = -gd n M := by
  have z : ∀ x : Nat → Int, gd n (mt_set (mt_set M r x) s x) = 0 := fun x => gd_z hr hs hrs (fun j => by rw [mt_set_n hrs, mt_set_i, mt_set_i])
  have e := z (fun j => 1 * M r j + 1 * M s j)
  rw [gd_lin n 1 1 (M r) (M s) hs, mt_set_comm hrs, gd_lin n 1 1 (M r) (M s) hr, mt_set_comm hrs, gd_lin n 1 1 (M r) (M s) hr, mt_set_comm (Ne.symm hrs), mt_set_comm (Ne.symm hrs), mt_set_comm (Ne.symm hrs), mt_set_comm (Ne.symm hrs), z (M r), z (M s)] at e
  have e1 : mt_set (mt_set M r (M r)) s (M s) = M := by rw [mt_set_self, mt_set_self]
  rw [e1] at e
  omega
theorem gd_sum {n r : Nat} {M Z : Nat → Nat → Int} {w : Nat → Int} (hr : r < n) : ∀ N, gd n (mt_set M r (fun j => mt_s (fun i => w i * Z i j) N)) = mt_s (fun i => w i * gd n (mt_set M r (Z i))) N := by
  intro N
  induction N with
  | zero =>
    have := gd_lin n (M := M) 0 0 (fun _ => 0) (fun _ => 0) hr
    rw [Int.zero_mul, Int.zero_mul] at this
    exact this
  | succ N ih =>
    have e : (fun j => mt_s (fun i => w i * Z i j) (N + 1)) = fun j => 1 * mt_s (fun i => w i * Z i j) N + w N * Z N j := by
      funext j
      show mt_s _ N + w N * Z N j = _
      omega
    rw [e, gd_lin n 1 (w N) _ _ hr, ih, Int.one_mul]
    rfl
def gd_p (W : Nat → Nat) : Nat → Nat
  | 0 => 1
  | n + 1 => gd_p W n * W n
/-- rows that are sums of others -/
theorem gd_bd {n N : Nat} {Y Z : Nat → Nat → Int} {w : Nat → Nat → Int} {W : Nat → Nat} {B : Nat} (hY : ∀ a, a < n → ∀ j, Y a j = mt_s (fun i => w a i * Z i j) N) (hW : ∀ a, a < n → mt_s (fun i => ((w a i).natAbs : Int)) N ≤ (W a : Int)) (hB : ∀ f : Nat → Nat, (∀ a, a < n → f a < N ∧ w a (f a) ≠ 0) → (gd n (fun a => Z (f a))).natAbs ≤ B) :
    (gd n Y).natAbs ≤ gd_p W n * B := by
  have key : ∀ t, t ≤ n → ∀ f : Nat → Nat, (∀ a, t ≤ a → a < n → f a < N ∧ w a (f a) ≠ 0) → (gd n (fun a => if a < t then Y a else Z (f a))).natAbs ≤ gd_p W t * B := by
    intro t
    induction t with
    | zero =>
      intro _ f hf
      have := hB f (fun a ha => hf a (Nat.zero_le _) ha)
      have e : (fun a => if a < 0 then Y a else Z (f a)) = fun a => Z (f a) := by funext a; rw [if_neg (Nat.not_lt_zero _)]
      rw [e]
      show _ ≤ 1 * B
      omega
    | succ t ih =>
      intro ht f hf
      have e : (fun a => if a < t + 1 then Y a else Z (f a)) = mt_set (fun a => if a < t then Y a else Z (f a)) t (fun j => mt_s (fun i => w t i * Z i j) N) := by
        funext a
        by_cases c : a = t
        · subst c; rw [mt_set_i, if_pos (by omega)]; funext j; exact hY a (by omega) j
        · rw [mt_set_n c]
          by_cases d : a < t
          · rw [if_pos d, if_pos (by omega)]
          · rw [if_neg d, if_neg (by omega)]
      rw [e, gd_sum (by omega)]
      generalize hC : gd_p W t * B = C at ih
      have hk : ∀ i, i < N → ((w t i * gd n (mt_set (fun a => if a < t then Y a else Z (f a)) t (Z i))).natAbs : Int) ≤ (C : Int) * ((w t i).natAbs : Int) := fun i hi => by
        by_cases c : w t i = 0
        · rw [c]; simp
        · have h2 := ih (by omega) (fun a => if a = t then i else f a) (fun a h1 h2 => by
            by_cases d : a = t
            · subst d; rw [if_pos rfl]; exact ⟨hi, c⟩
            · rw [if_neg d]; exact hf a (by omega) h2)
          have e2 : (fun a => if a < t then Y a else Z (if a = t then i else f a)) = mt_set (fun a => if a < t then Y a else Z (f a)) t (Z i) := by
            funext a
            by_cases d : a = t
            · subst d; rw [mt_set_i, if_neg (by omega), if_pos rfl]
            · rw [mt_set_n d, if_neg d]
          rw [e2] at h2
          rw [Int.natAbs_mul]
          have h3 := Nat.mul_le_mul_left (w t i).natAbs h2
          rw [Nat.mul_comm (w t i).natAbs C] at h3
          exact_mod_cast h3
      have h4 : ((mt_s (fun i => w t i * gd n (mt_set (fun a => if a < t then Y a else Z (f a)) t (Z i))) N).natAbs : Int) ≤ mt_s (fun i => (C : Int) * ((w t i).natAbs : Int)) N := Int.le_trans mt_s_abs (mt_s_le hk)
      rw [mt_s_mul] at h4
      have h5 := Int.mul_le_mul_of_nonneg_left (hW t (by omega)) (Int.natCast_nonneg C)
      have h6 : gd_p W (t + 1) * B = C * W t := by
        rw [← hC]
        show gd_p W t * W t * B = _
        exact Nat.mul_right_comm _ _ _
      rw [h6]
      have h7 : ((C * W t : Nat) : Int) = (C : Int) * (W t : Int) := Int.natCast_mul _ _
      omega
  have := key n (Nat.le_refl _) (fun _ => 0) (fun a h1 h2 => absurd h2 (by omega))
  have e : gd n (fun a => if a < n then Y a else Z 0) = gd n Y := gd_cg n (fun i j hi _ => by rw [if_pos hi])
  rw [e] at this
  exact this

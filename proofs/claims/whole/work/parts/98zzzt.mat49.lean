/-! ===== how great is what comes back ===== -/
theorem gy_Ts {w N K : Nat} {X T : Nat → Nat → Int} {s : Nat → Nat} (hT : mt_ec w T) (s1 : ∀ k, k < w → mt_sp N X (T k)) (s2 : ∀ r, r < N → mt_sp w T (X r)) (hb : ∀ f : Nat → Nat, (∀ a, a < w → T a a ≠ 0 → f a < N) → (gd w (fun a => if T a a = 0 then gd_E (s a) else X (f a))).natAbs ≤ K) : (gd w (fun a => if T a a = 0 then gd_E (s a) else T a)).natAbs ≤ K := by
  have dv : ∀ f : Nat → Nat, (∀ a, a < w → T a a ≠ 0 → f a < N) → gd w (fun a => if T a a = 0 then gd_E (s a) else T a) ∣ gd w (fun a => if T a a = 0 then gd_E (s a) else X (f a)) := fun f hf => gd_dvn (fun a ha => by
    by_cases c : T a a = 0
    · refine (mt_sp.row (X := fun a => if T a a = 0 then gd_E (s a) else T a) ha).cg (fun j => ?_)
      rw [if_pos c, if_pos c]
    · rw [if_neg c]
      refine mt_sp.le (fun i hi => ?_) (s2 (f a) (hf a ha c))
      by_cases d : T i i = 0
      · exact mt_sp.zero.cg (fun j => hT.2 i hi d j)
      · refine (mt_sp.row (X := fun a => if T a a = 0 then gd_E (s a) else T a) hi).cg (fun j => ?_)
        rw [if_neg d])
  apply Classical.byContradiction
  intro hno
  have hz : ∀ f : Nat → Nat, (∀ a, a < w → T a a ≠ 0 → f a < N) → gd w (fun a => if T a a = 0 then gd_E (s a) else X (f a)) = 0 := fun f hf => by
    apply Classical.byContradiction
    intro hne
    exact hno (mt_dvb hne (dv f hf) (hb f hf))
  have hs : ∃ d : Nat → Nat → Int, ∀ a, a < w → ∀ j, T a j = mt_s (fun i => d a i * X i j) N := gd_sk (Q := fun a d => ∀ j, T a j = mt_s (fun i => d i * X i j) N) (fun a ha => s1 a ha)
  obtain ⟨d, hd⟩ := hs
  have key : ∀ t, t ≤ w → ∀ f : Nat → Nat, (∀ a, t ≤ a → a < w → T a a ≠ 0 → f a < N) → gd w (fun a => if T a a = 0 then gd_E (s a) else if a < t then T a else X (f a)) = 0 := by
    intro t
    induction t with
    | zero =>
      intro _ f hf
      have := hz f (fun a ha hne => hf a (Nat.zero_le _) ha hne)
      refine Eq.trans ?_ this
      exact gd_cg w (fun i j _ _ => by
        try dsimp only
        split
        · rfl
        · rw [if_neg (Nat.not_lt_zero _)])
    | succ t ih =>
      intro ht f hf
      by_cases c : T t t = 0
      · refine Eq.trans ?_ (ih (by omega) f (fun a h1 h2 h3 => hf a (by
          by_cases e : a = t
          · subst e; exact absurd c h3
          · omega) h2 h3))
        exact gd_cg w (fun i j hi _ => by
          try dsimp only
          split
          · rfl
          · rename_i hne
            by_cases e : i < t
            · rw [if_pos e, if_pos (by omega)]
            · rw [if_neg e, if_neg (fun h => by
                have : i = t := by omega
                subst this; exact hne c)])
      · have e : gd w (fun a => if T a a = 0 then gd_E (s a) else if a < t + 1 then T a else X (f a)) = gd w (mt_set (fun a => if T a a = 0 then gd_E (s a) else if a < t then T a else X (f a)) t (fun j => mt_s (fun i => d t i * X i j) N)) := gd_cg w (fun i j hi _ => by
          try dsimp only
          by_cases e : i = t
          · subst e; rw [mt_set_i, if_neg c, if_pos (by omega)]; exact hd i hi j
          · rw [mt_set_n e]
            try dsimp only
            split
            · rfl
            · by_cases g : i < t
              · rw [if_pos g, if_pos (by omega)]
              · rw [if_neg g, if_neg (by omega)])
        rw [e, gd_sum (by omega)]
        refine mt_s_0 (fun i hi => ?_)
        have h2 := ih (by omega) (fun a => if a = t then i else f a) (fun a h1 h2 h3 => by
          by_cases g : a = t
          · subst g; rw [if_pos rfl]; exact hi
          · rw [if_neg g]; exact hf a (by omega) h2 h3)
        have e2 : gd w (mt_set (fun a => if T a a = 0 then gd_E (s a) else if a < t then T a else X (f a)) t (X i)) = gd w (fun a => if T a a = 0 then gd_E (s a) else if a < t then T a else X (if a = t then i else f a)) := gd_cg w (fun k j hk _ => by
          try dsimp only
          by_cases g : k = t
          · subst g; rw [mt_set_i, if_neg c, if_neg (by omega), if_pos rfl]
          · rw [mt_set_n g, if_neg g])
        rw [e2, h2, Int.mul_zero]
  have h0 := key w (Nat.le_refl _) (fun _ => 0) (fun a h1 h2 _ => absurd h2 (by omega))
  have e3 : gd w (fun a => if T a a = 0 then gd_E (s a) else T a) = 0 := Eq.trans (gd_cg w (fun i j hi _ => by
    by_cases c : T i i = 0
    · rw [if_pos c, if_pos c]
    · rw [if_neg c, if_neg c, if_pos hi])) h0
  rw [e3] at hno
  exact hno (Nat.zero_le _)

/-- all own rows lead: so do all rows -/
theorem gy_full {m n : Nat} {O t T : Nat → Nat → Int} (lo : ∀ k j, k < m → j < k → O k j = 0) (hOz : ∀ k j, k < m → m ≤ j → O k j = 0) (hne : ∀ k, k < m → O k k ≠ 0) (hT : mt_ec (m + n) T) (s2 : ∀ r, r < m + n → mt_sp (m + n) T (gx_X m n O t r)) : ∀ k, k < m + n → T k k ≠ 0 := by
  have e1 : gd (m + n) (gx_X m n O t) = gd_q (fun k => O k k) m := by rw [gx_gd hOz, gd_tri m (fun i j hi hj => lo i j hi hj)]
  have n1 : gd_q (fun k => O k k) m ≠ 0 := gd_q0 m hne
  have d2 : gd (m + n) T ∣ gd (m + n) (gx_X m n O t) := gd_dvn s2
  have e3 : gd (m + n) T = gd_q (fun k => T k k) (m + n) := gd_tri _ (fun i j hi hj => hT.1 i j hi hj)
  exact fun k hk z => by
    rw [e3, gd_qz (f := fun k => T k k) hk z, e1] at d2
    exact n1 (Int.zero_dvd.mp d2)
/-- a sum of bounds -/
def gy_b (m e : Nat) (i : Nat) : Nat := if i < m then 64087848 else if i = e then 0 else 19053144
def gy_bs (m e : Nat) : Nat → Nat
  | 0 => 0
  | n + 1 => gy_bs m e n + gy_b m e n
theorem gy_bs.le {m e : Nat} (he : m ≤ e) : ∀ k, gy_bs m e k ≤ (min k m) * 64087848 + ((k - m) - (if e < k then 1 else 0)) * 19053144 := by
  intro k
  induction k with
  | zero => exact Nat.zero_le _
  | succ k ih =>
    show gy_bs m e k + gy_b m e k ≤ _
    unfold gy_b
    by_cases c : k < m
    · rw [if_pos c]
      rw [if_neg (show ¬ e < k by omega)] at ih
      rw [if_neg (show ¬ e < k + 1 by omega)]
      rw [Nat.min_eq_left (by omega)] at ih ⊢
      have : k + 1 - m - 0 = 0 := by omega
      have : k - m - 0 = 0 := by omega
      omega
    · rw [if_neg c]
      rw [Nat.min_eq_right (by omega)] at ih ⊢
      by_cases d : k = e
      · subst d
        rw [if_neg (Nat.lt_irrefl _)] at ih
        rw [if_pos rfl, if_pos (by omega)]
        have : k + 1 - m - 1 = k - m - 0 := by omega
        rw [this]; omega
      · rw [if_neg d]
        by_cases g : e < k
        · rw [if_pos g] at ih
          rw [if_pos (by omega)]
          have : k + 1 - m - 1 = (k - m - 1) + 1 := by omega
          rw [this]; omega
        · rw [if_neg g] at ih
          rw [if_neg (by omega)]
          have : k + 1 - m - 0 = (k - m - 0) + 1 := by omega
          rw [this]; omega
/-- a place without a lead of what comes back -/
theorem gy_R {m n e : Nat} {O t H : Nat → Nat → Int} {v : Nat → Int} (hO : gx_O m 972 O) (hn : n ≤ 3) (ht : ∀ i j, (t i j).natAbs ≤ 99) (hH : mt_hn (m + n) H) (s1 : ∀ k, k < m + n → mt_sp (m + n) (gx_X m n O t) (H k)) (s2 : ∀ r, r < m + n → mt_sp (m + n) H (gx_X m n O t r)) (hv : mt_sp (m + n) H v) (hc : ∀ z, z < m → (v z).natAbs ≤ 999) (hR : ∀ z, m ≤ z → z < m + n → H z z ≠ 0 → 0 ≤ v z ∧ v z < H z z) (he : m ≤ e) (he2 : e < m + n) (z : H e e = 0) : (v e).natAbs ≤ 230369832 := by
  have hec := hH.ec
  have hm := hO.1
  have hT : ∀ k, (gd (m + n) (mt_set (gd_T H) e (gd_E k))).natAbs ≤ (if k < m then 64152 else 19053144) := fun k => by
    have e1 : gd (m + n) (fun a => if H a a = 0 then gd_E (if a = e then k else a) else H a) = gd (m + n) (mt_set (gd_T H) e (gd_E k)) := gd_cg _ (fun i j hi _ => by
      by_cases c : i = e
      · subst c; rw [mt_set_i, if_pos z, if_pos rfl]
      · rw [mt_set_n c]
        unfold gd_T
        by_cases d : H i i = 0
        · rw [if_pos d, if_pos d, if_neg c]
        · rw [if_neg d, if_neg d])
    rw [← e1]
    refine gy_Ts (s := fun a => if a = e then k else a) hec s1 s2 (fun f hf => ?_)
    have hZ : ∀ a, a < m + n → (∃ r, r < m + n ∧ (fun a => if H a a = 0 then gd_E (if a = e then k else a) else gx_X m n O t (f a)) a = gx_X m n O t r) ∨ ∃ j, (fun a => if H a a = 0 then gd_E (if a = e then k else a) else gx_X m n O t (f a)) a = gd_E j := fun a ha => by
      by_cases d : H a a = 0
      · exact Or.inr ⟨_, if_pos d⟩
      · exact Or.inl ⟨f a, hf a ha d, if_neg d⟩
    by_cases c : k < m
    · rw [if_pos c]
      exact gy_K1 (r := e) (q := k) hO hn ht he2 c (by
        show (if H e e = 0 then gd_E (if e = e then k else e) else _) = _
        rw [if_pos z, if_pos rfl]) hZ
    · rw [if_neg c]
      exact gy_K hO hn ht _ (fun a ha => (hZ a ha).imp (fun ⟨r, h1, h2⟩ => ⟨r, h1, h2⟩) id)
  -- it is nothing on what is spanned
  have zr : ∀ q, q < m + n → gd (m + n) (mt_set (gd_T H) e (H q)) = 0 := fun q hq => by
    by_cases zq : H q q = 0
    · rw [gd_row (H q) he2]
      exact mt_s_0 (fun i _ => by rw [hH.2.2.1 q hq zq i, Int.zero_mul])
    · have hqe : q ≠ e := fun h => zq (by rw [h]; exact z)
      exact gd_z (M := mt_set (gd_T H) e (H q)) hq he2 hqe (fun j => by
        rw [mt_set_n hqe, mt_set_i]; unfold gd_T; rw [if_neg zq])
  obtain ⟨d, hd⟩ := hv
  have h0 : gd (m + n) (mt_set (gd_T H) e v) = 0 := by
    have : v = fun j => mt_s (fun i => d i * H i j) (m + n) := funext hd
    rw [this, gd_sum he2]
    exact mt_s_0 (fun i hi => by rw [zr i hi, Int.mul_zero])
  rw [gd_row v he2, mt_s_split (b := e) he2] at h0
  have eT : mt_set (gd_T H) e (gd_E e) = gd_T H := by
    have : gd_E e = gd_T H e := by unfold gd_T; rw [if_pos z]
    rw [this, mt_set_self]
  rw [eT] at h0
  have hP := gd_T.ne hec
  have lead := fun j hj => gd_T.lead hec (fun k hk => hH.2.1 k hk) (q := j) hj
  generalize hp : gd (m + n) (gd_T H) = P at *
  have bd : ∀ i, i < m + n → ((fun i => if i = e then 0 else v i * gd (m + n) (mt_set (gd_T H) e (gd_E i))) i).natAbs ≤ P.natAbs * gy_b m e i := fun i hi => by
    try dsimp only
    by_cases c : i = e
    · rw [if_pos c]; exact Nat.zero_le _
    · rw [if_neg c]
      unfold gy_b
      by_cases cm : i < m
      · rw [if_pos cm]
        have h1 := hT i
        rw [if_pos cm] at h1
        rw [Int.natAbs_mul]
        have h2 : (v i).natAbs * (gd (m + n) (mt_set (gd_T H) e (gd_E i))).natAbs ≤ 999 * 64152 := Nat.mul_le_mul (hc i cm) h1
        have h3 : 1 * 64087848 ≤ P.natAbs * 64087848 := Nat.mul_le_mul_right _ (by omega)
        exact Nat.le_trans h2 (Nat.le_trans (by decide) h3)
      · rw [if_neg cm, if_neg c]
        by_cases dz : H i i = 0
        · rw [gd_z (M := mt_set (gd_T H) e (gd_E i)) hi he2 c (fun j => by
            rw [mt_set_n c, mt_set_i]; unfold gd_T; rw [if_pos dz]), Int.mul_zero]
          exact Nat.zero_le _
        · have h1 := hT i
          rw [if_neg cm] at h1
          rw [Int.natAbs_mul]
          have h2 := hR i (by omega) hi dz
          have h3 := lead i hi
          exact Nat.mul_le_mul (by omega) h1
  have sum : ∀ k, k ≤ m + n → (mt_s (fun i => if i = e then 0 else v i * gd (m + n) (mt_set (gd_T H) e (gd_E i))) k).natAbs ≤ P.natAbs * gy_bs m e k := by
    intro k
    induction k with
    | zero => intro _; exact Nat.zero_le _
    | succ k ih =>
      intro hk
      have h1 := ih (by omega)
      have h2 := bd k (by omega)
      show (mt_s _ k + (fun i => if i = e then 0 else v i * gd (m + n) (mt_set (gd_T H) e (gd_E i))) k).natAbs ≤ P.natAbs * (gy_bs m e k + gy_b m e k)
      rw [Nat.mul_add]
      omega
  have h1 := sum (m + n) (Nat.le_refl _)
  have h2 := gy_bs.le (m := m) (e := e) he (m + n)
  rw [if_pos he2, Nat.min_eq_right (by omega)] at h2
  have h3 : gy_bs m e (m + n) ≤ 230369832 := by
    have : m + n - m - 1 ≤ 2 := by omega
    omega
  have h4 : (v e * P).natAbs ≤ P.natAbs * 230369832 := by
    have h5 := Nat.mul_le_mul_left P.natAbs h3
    omega
  rw [Int.natAbs_mul, Nat.mul_comm] at h4
  exact Nat.le_of_mul_le_mul_left h4 (by omega)

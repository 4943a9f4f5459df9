/-! ===== a stage: determinants behind it, by those ahead of it ===== -/
/-- which of the rows are changed ones -/
def gd_K (n p b : Nat) (S : Nat → Bool) (X Y Z : Nat → Nat → Int) (C : Nat → Bool) (f : Nat → Nat) : Prop := ∀ a, a < n → (C a = true → S (f a) = true ∧ f a ≠ b ∧ X (f a) p ≠ 0 ∧ Z a = Y (f a) ∧ Z a p = 0) ∧ (C a = false → (∃ r, S r = true ∧ X r p = 0 ∧ Z a = X r) ∨ ∃ j, Z a = gd_E j)
theorem gd_cls {n p m b : Nat} {S : Nat → Bool} {X Y Z : Nat → Nat → Int} (h : mt_tr S p m X Y b) (hZ : ∀ a, a < n → (∃ r, (S r && decide (r ≠ b)) = true ∧ Z a = Y r) ∨ ∃ j, Z a = gd_E j) : ∃ C f, gd_K n p b S X Y Z C f := by
  refine ⟨fun a => @decide (∃ r, S r = true ∧ r ≠ b ∧ X r p ≠ 0 ∧ Z a = Y r) (Classical.propDecidable _), fun a => Classical.epsilon (fun r => S r = true ∧ r ≠ b ∧ X r p ≠ 0 ∧ Z a = Y r), fun a ha => ⟨fun hC => ?_, fun hC => ?_⟩⟩
  · have e := Classical.epsilon_spec (p := fun r => S r = true ∧ r ≠ b ∧ X r p ≠ 0 ∧ Z a = Y r) (@of_decide_eq_true _ (Classical.propDecidable _) hC)
    exact ⟨e.1, e.2.1, e.2.2.1, e.2.2.2, (congrFun e.2.2.2 p).trans (h.end.2.2.1 _ e.1 e.2.1)⟩
  · have hC := @of_decide_eq_false _ (Classical.propDecidable _) hC
    rcases hZ a ha with ⟨r, h1, h2⟩ | h1
    · rw [Bool.and_eq_true, decide_eq_true_eq] at h1
      by_cases z : X r p = 0
      · exact Or.inl ⟨r, h1.1, z, by rw [h2]; exact (h.o r h1.1 z).2⟩
      · exact absurd ⟨r, h1.1, h1.2, z, h2⟩ hC
    · exact Or.inr h1
theorem gd_K.z {n p b ap : Nat} {S : Nat → Bool} {X Y Z : Nat → Nat → Int} {C : Nat → Bool} {f : Nat → Nat} (hC : gd_K n p b S X Y Z C f) (hne : ∀ a, a < n → a ≠ ap → Z a ≠ gd_E p) : ∀ a, a < n → a ≠ ap → Z a p = 0 := by
  intro a ha h
  cases c : C a with
  | true => exact ((hC a ha).1 c).2.2.2.2
  | false =>
    rcases (hC a ha).2 c with ⟨r, -, h1, h2⟩ | ⟨j, h1⟩
    · rw [h2]; exact h1
    · rw [h1]
      refine gd_En (fun e => ?_)
      exact hne a ha h (by rw [h1, e])
theorem gd_K.p {n p b ap : Nat} {S : Nat → Bool} {X Y Z : Nat → Nat → Int} {C : Nat → Bool} {f : Nat → Nat} (hC : gd_K n p b S X Y Z C f) (hap : ap < n) (eap : Z ap = gd_E p) {a : Nat} (ha : C a = true) : a ≠ ap := by
  intro e
  subst e
  have := ((hC a hap).1 ha).2.2.2.2
  rw [eap, gd_Ei] at this
  exact absurd this (by decide)
/-- one row is changed -/
theorem gd_c1 {n N p m b G ap a1 : Nat} {S : Nat → Bool} {X Y Z : Nat → Nat → Int} {C : Nat → Bool} {f : Nat → Nat} (hS : ∀ r, S r = true → r < N) (hp : p < n) (h : mt_tr S p m X Y b) (hF : gd_F n (fun u => ∃ r, S r = true ∧ u = X r) G) (hC : gd_K n p b S X Y Z C f) (hap : ap < n) (eap : Z ap = gd_E p) (hne : ∀ a, a < n → a ≠ ap → Z a ≠ gd_E p) (ha1 : a1 < n) (c1 : C a1 = true) (h1 : ∀ a, a < n → C a = true → a = a1) : (gd n Z).natAbs ≤ 2 * G := by
  have hz := hC.z hne
  have ne1 := hC.p hap eap c1
  obtain ⟨b0, f1, f2, f3, f4⟩ := h.first hS
  obtain ⟨g1, g2, g3, g4, g5⟩ := (hC a1 ha1).1 c1
  obtain ⟨w, w1, w2, w3⟩ := f4 (f a1) g1 g3
  rw [if_neg g2] at w3
  have hY : ∀ j, X b0 p * Y (f a1) j = mt_s (fun i => w i * (fun i j => X b0 p * X i j - X i p * X b0 j) i j) N := fun j => by
    rw [w2 j, h.end.2.2.1 _ g1 g2, Int.zero_mul, Int.zero_add]
  have key := gd_ex (M := Z) (c := 2) (B := G) ha1 f2 hY w3 (fun i hi => by
    try dsimp only
    have k1 : gd n (mt_set (mt_set Z a1 (fun j => X b0 p * X i j - X i p * X b0 j)) ap (X b0)) = X b0 p * gd n (mt_set Z a1 (fun j => X b0 p * X i j - X i p * X b0 j)) := by
      rw [gd_pE (X b0) hp hap (fun a ha hane => by
        by_cases c : a = a1
        · subst c; rw [mt_set_i]; (try dsimp only); rw [Int.mul_comm]; omega
        · rw [mt_set_n c]; exact hz a ha hane)]
      congr 2
      rw [← eap, ← mt_set_n (B := Z) (i := a1) (R := fun j => X b0 p * X i j - X i p * X b0 j) (Ne.symm ne1), mt_set_self]
    have k2 : gd n (mt_set (mt_set Z a1 (fun j => X b0 p * X i j - X i p * X b0 j)) ap (X b0)) = X b0 p * gd n (mt_set (mt_set Z ap (X b0)) a1 (X i)) := by
      rw [mt_set_comm ne1]
      have := gd_ta (M := mt_set Z ap (X b0)) (t := X i) (v := X b0 p) (c := X i p) ha1 hap ne1
      rw [mt_set_i] at this
      exact this
    have k3 := Int.eq_of_mul_eq_mul_left f2 (k1.symm.trans k2)
    rw [k3]
    refine hF _ (fun a ha => ?_)
    by_cases c : a = a1
    · subst c; rw [mt_set_i]; exact Or.inl ⟨i, (w1 i hi).1, rfl⟩
    · rw [mt_set_n c]
      by_cases d : a = ap
      · subst d; rw [mt_set_i]; exact Or.inl ⟨b0, f1, rfl⟩
      · rw [mt_set_n d]
        cases e : C a with
        | true => exact absurd (h1 a ha e) c
        | false => exact ((hC a ha).2 e).imp (fun ⟨r, r1, _, r2⟩ => ⟨r, r1, r2⟩) id)
  rw [← g4, mt_set_self] at key
  exact key
/-- two rows are changed -/
theorem gd_c2 {n N p m b G ap a1 a2 : Nat} {S : Nat → Bool} {X Y Z : Nat → Nat → Int} {C : Nat → Bool} {f : Nat → Nat} (hS : ∀ r, S r = true → r < N) (hp : p < n) (h : mt_tr S p m X Y b) (hF : gd_F n (fun u => ∃ r, S r = true ∧ u = X r) G) (hC : gd_K n p b S X Y Z C f) (hap : ap < n) (eap : Z ap = gd_E p) (hne : ∀ a, a < n → a ≠ ap → Z a ≠ gd_E p) (ha1 : a1 < n) (c1 : C a1 = true) (ha2 : a2 < n) (c2 : C a2 = true) (h12 : a1 ≠ a2) (h1 : ∀ a, a < n → C a = true → a = a1 ∨ a = a2) {v : Nat} (hv : ∃ r, S r = true ∧ X r p ≠ 0 ∧ (X r p).natAbs ≤ v) : (gd n Z).natAbs ≤ 4 * v * G := by
  have hz := hC.z hne
  have ne1 := hC.p hap eap c1
  have ne2 := hC.p hap eap c2
  obtain ⟨b0, f1, f2, f3, f4⟩ := h.first hS
  obtain ⟨g1, g2, g3, g4, g5⟩ := (hC a1 ha1).1 c1
  obtain ⟨g1', g2', g3', g4', g5'⟩ := (hC a2 ha2).1 c2
  obtain ⟨w, w1, w2, w3⟩ := f4 (f a1) g1 g3
  obtain ⟨w', w1', w2', w3'⟩ := f4 (f a2) g1' g3'
  rw [if_neg g2] at w3
  rw [if_neg g2'] at w3'
  have hv0 : (X b0 p).natAbs ≤ v := by
    obtain ⟨r, r1, r2, r3⟩ := hv
    have := f3 r r1 r2; omega
  have hY : ∀ j, X b0 p * Y (f a1) j = mt_s (fun i => w i * (fun i j => X b0 p * X i j - X i p * X b0 j) i j) N := fun j => by
    rw [w2 j, h.end.2.2.1 _ g1 g2, Int.zero_mul, Int.zero_add]
  have hY' : ∀ j, X b0 p * Y (f a2) j = mt_s (fun i => w' i * (fun i j => X b0 p * X i j - X i p * X b0 j) i j) N := fun j => by
    rw [w2' j, h.end.2.2.1 _ g1' g2', Int.zero_mul, Int.zero_add]
  have key := gd_ex (M := mt_set Z a2 (Y (f a2))) (c := 2) (B := 2 * ((X b0 p).natAbs * G)) ha1 f2 hY w3 (fun i hi => by
    rw [mt_set_comm (Ne.symm h12)]
    refine gd_ex (M := mt_set Z a1 _) (c := 2) (B := (X b0 p).natAbs * G) ha2 f2 hY' w3' (fun k hk => ?_)
    try dsimp only
    have zz : ∀ a, a < n → a ≠ ap → mt_set (mt_set Z a1 (fun j => X b0 p * X i j - X i p * X b0 j)) a2 (fun j => X b0 p * X k j - X k p * X b0 j) a p = 0 := fun a ha hane => by
      by_cases c : a = a2
      · subst c; rw [mt_set_i]; (try dsimp only); rw [Int.mul_comm]; omega
      · rw [mt_set_n c]
        by_cases d : a = a1
        · subst d; rw [mt_set_i]; (try dsimp only); rw [Int.mul_comm]; omega
        · rw [mt_set_n d]; exact hz a ha hane
    have ea : mt_set (mt_set Z a1 (fun j => X b0 p * X i j - X i p * X b0 j)) a2 (fun j => X b0 p * X k j - X k p * X b0 j) ap = gd_E p := by
      rw [mt_set_n (Ne.symm ne2), mt_set_n (Ne.symm ne1)]; exact eap
    have ec : mt_set (mt_set (mt_set Z a1 (fun j => X b0 p * X i j - X i p * X b0 j)) a2 (fun j => X b0 p * X k j - X k p * X b0 j)) ap (X b0) = mt_set (mt_set (mt_set Z ap (X b0)) a1 (fun j => X b0 p * X i j - X i p * X b0 j)) a2 (fun j => X b0 p * X k j - X k p * X b0 j) := by
      rw [mt_set_comm ne2, mt_set_comm (M := Z) ne1]
    have k1 : gd n (mt_set (mt_set (mt_set Z a1 (fun j => X b0 p * X i j - X i p * X b0 j)) a2 (fun j => X b0 p * X k j - X k p * X b0 j)) ap (X b0)) = X b0 p * gd n (mt_set (mt_set Z a1 (fun j => X b0 p * X i j - X i p * X b0 j)) a2 (fun j => X b0 p * X k j - X k p * X b0 j)) := by
      rw [gd_pE (X b0) hp hap zz]
      congr 2
      rw [← ea, mt_set_self]
    have k2 := gd_ta (M := mt_set (mt_set Z ap (X b0)) a1 (fun j => X b0 p * X i j - X i p * X b0 j)) (t := X k) (v := X b0 p) (c := X k p) ha2 hap ne2
    rw [mt_set_n (Ne.symm ne1), mt_set_i, mt_set_comm (M := mt_set Z ap (X b0)) (v := X k) h12] at k2
    have k3 := gd_ta (M := mt_set (mt_set Z ap (X b0)) a2 (X k)) (t := X i) (v := X b0 p) (c := X i p) ha1 hap ne1
    rw [mt_set_n (Ne.symm ne2), mt_set_i] at k3
    rw [ec, k2, k3] at k1
    have k4 := Int.eq_of_mul_eq_mul_left f2 k1
    rw [← k4, Int.natAbs_mul]
    refine Nat.mul_le_mul_left _ (hF _ (fun a ha => ?_))
    by_cases c : a = a1
    · subst c; rw [mt_set_i]; exact Or.inl ⟨i, (w1 i hi).1, rfl⟩
    · rw [mt_set_n c]
      by_cases d : a = a2
      · subst d; rw [mt_set_i]; exact Or.inl ⟨k, (w1' k hk).1, rfl⟩
      · rw [mt_set_n d]
        by_cases d2 : a = ap
        · subst d2; rw [mt_set_i]; exact Or.inl ⟨b0, f1, rfl⟩
        · rw [mt_set_n d2]
          cases e : C a with
          | true => rcases h1 a ha e with e1 | e1
                    · exact absurd e1 c
                    · exact absurd e1 d
          | false => exact ((hC a ha).2 e).imp (fun ⟨r, r1, _, r2⟩ => ⟨r, r1, r2⟩) id)
  rw [← g4', mt_set_self, ← g4, mt_set_self] at key
  have e1 : 2 * (2 * ((X b0 p).natAbs * G)) = 4 * (X b0 p).natAbs * G := by rw [Nat.mul_assoc 4, ← Nat.mul_assoc 2 2]
  have e2 : 4 * (X b0 p).natAbs * G ≤ 4 * v * G := Nat.mul_le_mul_right _ (Nat.mul_le_mul_left _ hv0)
  omega
/-- all rows that lose something are there -/
theorem gd_cv {n N p m b G ap : Nat} {S : Nat → Bool} {X Y Z : Nat → Nat → Int} {C : Nat → Bool} {f : Nat → Nat} (hS : ∀ r, S r = true → r < N) (hp : p < n) (h : mt_tr S p m X Y b) (hF : gd_F n (fun u => ∃ r, S r = true ∧ u = X r) G) (hC : gd_K n p b S X Y Z C f) (hap : ap < n) (eap : Z ap = gd_E p) (hne : ∀ a, a < n → a ≠ ap → Z a ≠ gd_E p) (hcov : ∀ r, S r = true → X r p ≠ 0 → r ≠ b → ∃ a, a < n ∧ C a = true ∧ f a = r) : (gd n Z).natAbs ≤ G := by
  have hz := hC.z hne
  obtain ⟨t1, t2, t3, t4⟩ := h.end
  have hb0 : X b p ≠ 0 := fun z => (h.o b t1 z).1 rfl
  have e1 : gd n (mt_set Z ap (Y b)) = Y b p * gd n Z := by
    rw [gd_pE (Y b) hp hap hz, ← eap, mt_set_self]
  have nap : C ap = false := by
    cases e : C ap with
    | true => exact absurd rfl (hC.p hap eap e)
    | false => rfl
  have rows : ∀ V : Nat → Nat → Int, ∀ r, S r = true → X r p ≠ 0 → mt_sp n (fun a => if a = ap then V b else if C a = true then V (f a) else Z a) (V r) := fun V r hr hr0 => by
    by_cases e : r = b
    · subst e
      exact (mt_sp.row (X := fun a => if a = ap then V r else if C a = true then V (f a) else Z a) hap).cg (fun j => by rw [if_pos rfl])
    · obtain ⟨a, a1, a2, a3⟩ := hcov r hr hr0 e
      exact (mt_sp.row (X := fun a => if a = ap then V b else if C a = true then V (f a) else Z a) a1).cg (fun j => by rw [if_neg (hC.p hap eap a2), if_pos a2, a3])
  have eZ : gd n (mt_set Z ap (Y b)) = gd n (fun a => if a = ap then Y b else if C a = true then Y (f a) else Z a) := gd_cg n (fun a j ha _ => by
    try dsimp only
    by_cases c : a = ap
    · rw [c, mt_set_i, if_pos rfl]
    · rw [mt_set_n c, if_neg c]
      by_cases d : C a = true
      · rw [if_pos d, ((hC a ha).1 d).2.2.2.1]
      · rw [if_neg d])
  have sub : ∀ V W : Nat → Nat → Int, (∀ r, S r = true → X r p ≠ 0 → mt_sp n (fun a => if a = ap then W b else if C a = true then W (f a) else Z a) (V r)) → ∀ a, a < n → mt_sp n (fun a => if a = ap then W b else if C a = true then W (f a) else Z a) ((fun a => if a = ap then V b else if C a = true then V (f a) else Z a) a) := fun V W hs a ha => by
    try dsimp only
    by_cases c : a = ap
    · rw [if_pos c]; exact hs b t1 hb0
    · rw [if_neg c]
      by_cases d : C a = true
      · rw [if_pos d]
        obtain ⟨g1, g2, g3, -, -⟩ := (hC a ha).1 d
        exact hs (f a) g1 g3
      · rw [if_neg d]
        exact (mt_sp.row (X := fun a => if a = ap then W b else if C a = true then W (f a) else Z a) ha).cg (fun j => by rw [if_neg c, if_neg d])
  have d1 := gd_dvn (n := n) (sub Y X ((mt_tr.spA (A := fun r => X r p ≠ 0) h (fun r _ hr => hr)).mp (rows X)))
  have d2 := gd_dvn (n := n) (sub X Y ((mt_tr.spA (A := fun r => X r p ≠ 0) h (fun r _ hr => hr)).mpr (rows Y)))
  have e2 : (gd n (fun a => if a = ap then X b else if C a = true then X (f a) else Z a)).natAbs = (gd n (fun a => if a = ap then Y b else if C a = true then Y (f a) else Z a)).natAbs := Nat.dvd_antisymm (Int.natAbs_dvd_natAbs.mpr d1) (Int.natAbs_dvd_natAbs.mpr d2)
  have e3 : (gd n (fun a => if a = ap then X b else if C a = true then X (f a) else Z a)).natAbs ≤ G := hF _ (fun a ha => by
    try dsimp only
    by_cases c : a = ap
    · rw [if_pos c]; exact Or.inl ⟨b, t1, rfl⟩
    · rw [if_neg c]
      cases d : C a with
      | true => rw [if_pos rfl]; exact Or.inl ⟨f a, ((hC a ha).1 d).1, rfl⟩
      | false =>
        rw [if_neg (by decide)]
        exact ((hC a ha).2 d).imp (fun ⟨r, r1, _, r2⟩ => ⟨r, r1, r2⟩) id)
  have e4 := congrArg Int.natAbs e1
  rw [eZ, Int.natAbs_mul] at e4
  have e5 : 1 * (gd n Z).natAbs ≤ (Y b p).natAbs * (gd n Z).natAbs := Nat.mul_le_mul_right _ (by omega)
  omega
/-- what stands behind a stage -/
theorem gd_stg {n N p m b G t v : Nat} {S : Nat → Bool} {X Y : Nat → Nat → Int} (hS : ∀ r, S r = true → r < N) (hp : p < n) (h : mt_tr S p m X Y b) (hF : gd_F n (fun u => ∃ r, S r = true ∧ u = X r) G) (hv : ∃ r, S r = true ∧ X r p ≠ 0 ∧ (X r p).natAbs ≤ v) (ht : (2 * G ≤ t ∧ ∃ x y, ∀ r, S r = true → X r p ≠ 0 → r ≠ b → r = x ∨ r = y) ∨ (4 * v * G ≤ t ∧ ∃ x y z, ∀ r, S r = true → X r p ≠ 0 → r ≠ b → r = x ∨ r = y ∨ r = z)) :
    gd_F n (fun u => ∃ r, (S r && decide (r ≠ b)) = true ∧ u = Y r) t := by
  intro Z hZ
  have hv1 : 1 ≤ v := by obtain ⟨r, -, r2, r3⟩ := hv; omega
  have h4 : 2 * G ≤ 4 * v * G := Nat.mul_le_mul_right _ (by omega)
  have ht2 : 2 * G ≤ t := by rcases ht with ⟨h1, -⟩ | ⟨h1, -⟩ <;> omega
  have hz' : ∀ a, a < n → (∀ a, a < n → Z a ≠ gd_E p) → Z a p = 0 := fun a ha hno => by
    rcases hZ a ha with ⟨r, h1, h2⟩ | ⟨j, h1⟩
    · rw [Bool.and_eq_true, decide_eq_true_eq] at h1
      rw [h2]; exact h.end.2.2.1 r h1.1 h1.2
    · rw [h1]
      exact gd_En (fun e => hno a ha (by rw [h1, e]))
  obtain ⟨C, f, hC⟩ := gd_cls h hZ
  by_cases hE : ∃ ap, ap < n ∧ Z ap = gd_E p
  case neg =>
    rw [gd_zc n (b := p) hp (fun a ha => hz' a ha (fun a ha e => hE ⟨a, ha, e⟩))]
    exact Nat.zero_le _
  obtain ⟨ap, hap, eap⟩ := hE
  by_cases hd : ∃ a, a < n ∧ a ≠ ap ∧ Z a = gd_E p
  · obtain ⟨a, a1, a2, a3⟩ := hd
    rw [gd_z a1 hap a2 (fun j => by rw [a3, eap])]
    exact Nat.zero_le _
  have hne : ∀ a, a < n → a ≠ ap → Z a ≠ gd_E p := fun a a1 a2 a3 => hd ⟨a, a1, a2, a3⟩
  by_cases hdup : ∃ a a', a < n ∧ a' < n ∧ a ≠ a' ∧ C a = true ∧ C a' = true ∧ f a = f a'
  · obtain ⟨a, a', a1, a2, a3, a4, a5, a6⟩ := hdup
    rw [gd_z a1 a2 a3 (fun j => by rw [((hC a a1).1 a4).2.2.2.1, ((hC a' a2).1 a5).2.2.2.1, a6])]
    exact Nat.zero_le _
  have inj : ∀ a a', a < n → a' < n → C a = true → C a' = true → f a = f a' → a = a' := fun a a' a1 a2 a3 a4 a5 => by
    apply Classical.byContradiction
    intro a6
    exact hdup ⟨a, a', a1, a2, a6, a3, a4, a5⟩
  by_cases hcov : ∀ r, S r = true → X r p ≠ 0 → r ≠ b → ∃ a, a < n ∧ C a = true ∧ f a = r
  · have := gd_cv hS hp h hF hC hap eap hne hcov
    omega
  have hr0 : ∃ r0, S r0 = true ∧ X r0 p ≠ 0 ∧ r0 ≠ b ∧ ∀ a, a < n → C a = true → f a ≠ r0 := by
    apply Classical.byContradiction
    intro hno
    refine hcov (fun r h1 h2 h3 => ?_)
    apply Classical.byContradiction
    intro hno2
    exact hno ⟨r, h1, h2, h3, fun a a1 a2 a3 => hno2 ⟨a, a1, a2, a3⟩⟩
  obtain ⟨r0, q1, q2, q3, q4⟩ := hr0
  by_cases o0 : ∃ a1, a1 < n ∧ C a1 = true
  case neg =>
    have := hF Z (fun a ha => by
      cases e : C a with
      | true => exact absurd ⟨a, ha, e⟩ o0
      | false => exact ((hC a ha).2 e).imp (fun ⟨r, r1, _, r2⟩ => ⟨r, r1, r2⟩) id)
    omega
  obtain ⟨a1, ha1, c1⟩ := o0
  obtain ⟨s1, s2, s3, -, -⟩ := (hC a1 ha1).1 c1
  by_cases o1 : ∃ a2, a2 < n ∧ C a2 = true ∧ a2 ≠ a1
  case neg =>
    have := gd_c1 hS hp h hF hC hap eap hne ha1 c1 (fun a ha e => by
      apply Classical.byContradiction
      intro hx; exact o1 ⟨a, ha, e, hx⟩)
    omega
  obtain ⟨a2, ha2, c2, h21⟩ := o1
  obtain ⟨u1, u2, u3, -, -⟩ := (hC a2 ha2).1 c2
  have nf : f a1 ≠ f a2 := fun e => h21 (inj a2 a1 ha2 ha1 c2 c1 e.symm)
  have n1 := q4 a1 ha1 c1
  have n2 := q4 a2 ha2 c2
  rcases ht with ⟨-, x, y, hxy⟩ | ⟨h5, x, y, z, hxyz⟩
  · exfalso
    have k0 := hxy r0 q1 q2 q3
    have k1 := hxy _ s1 s3 s2
    have k2 := hxy _ u1 u3 u2
    omega
  · have := gd_c2 hS hp h hF hC hap eap hne ha1 c1 ha2 c2 (Ne.symm h21) (fun a ha e => by
      obtain ⟨w1, w2, w3, -, -⟩ := (hC a ha).1 e
      have n3 := q4 a ha e
      have k0 := hxyz r0 q1 q2 q3
      have k1 := hxyz _ s1 s3 s2
      have k2 := hxyz _ u1 u3 u2
      have k3 := hxyz _ w1 w3 w2
      by_cases e1 : f a = f a1
      · exact Or.inl (inj a a1 ha ha1 e c1 e1)
      · exact Or.inr (inj a a2 ha ha2 e c2 (by omega))) hv
    omega

/-! ===== the one relation between the two memories ===== -/
/-- a weaker end of a contract -/
theorem ax_Con.mono {l : Launch} {D : va_G} {T : Nat → ClassId} {o : Nat} {y : MethodName} {b : ByteArray} {n : Nat} {ret : Option FieldType} {d mc ms : Nat} {As : List Value} {G : ax_G} {I : ax_I} {L : ax_L} {P Q : Option Value → ax_G → ax_I → ax_L → Prop}
    (h : ax_Con l D T o y b n ret d mc ms As G I L P) (hPQ : ∀ z G' I' L', P z G' I' L' → Q z G' I' L') : ax_Con l D T o y b n ret d mc ms As G I L Q := by
  unfold ax_Con Met at h ⊢
  refine MetFree.mono h (fun _ _ h => h) (fun _ _ _ _ _ h => h) (fun a st oc t _ hq => ?_)
  obtain ⟨⟨⟨v, G', I', L', h1, h2, h3⟩, h4⟩, h5⟩ := hq
  exact ⟨⟨⟨v, G', I', L', h1, hPQ _ _ _ _ h2, h3⟩, h4⟩, h5⟩
theorem ay_PI.mk {l : Launch} {D : va_G} {T : Nat → ClassId} {o d : Nat} {Rel : ax_G → ax_I → ax_L → Prop} {y1 : MethodName} {b1 : ByteArray} {n1 : Nat} {r1 : Option FieldType} {y2 : MethodName} {b2 : ByteArray} {n2 : Nat} {r2 : Option FieldType} {A1 A2 : List Value} {G : ax_G} {I : ax_I} {L : ax_L} {v1 v2 : Int32} {I1 I2 : ax_I} {L1 L2 : ax_L}
    (c1 : ax_Con l D T o y1 b1 n1 r1 d 0 0 A1 G I L (fun z G' I' L' => z = some (.int v1) ∧ G = G' ∧ I1 = I' ∧ L1 = L'))
    (c2 : ax_Con l D T o y2 b2 n2 r2 d 0 0 A2 G I1 L1 (fun z G' I' L' => z = some (.int v2) ∧ G = G' ∧ I2 = I' ∧ L2 = L'))
    (hv : v1 = v2) (hr : Rel G I2 L2) :
    ∃ v : Int32, ax_Con l D T o y1 b1 n1 r1 d 0 0 A1 G I L (fun z G' I' L' => z = some (.int v) ∧ G = G' ∧ ax_Con l D T o y2 b2 n2 r2 d 0 0 A2 G I' L' (fun z2 G2 I2 L2 => z2 = some (.int v) ∧ Rel G2 I2 L2)) := by
  subst hv
  refine ⟨v1, c1.mono ?_⟩
  rintro z G' I' L' ⟨h1, h2, rfl, rfl⟩
  refine ⟨h1, h2, c2.mono ?_⟩
  rintro z' G'' I'' L'' ⟨h1, rfl, rfl, rfl⟩
  exact ⟨h1, hr⟩
theorem ay_PJ.mk {l : Launch} {D : va_G} {T : Nat → ClassId} {o d : Nat} {Rel : ax_G → ax_I → ax_L → Prop} {y1 : MethodName} {b1 : ByteArray} {n1 : Nat} {r1 : Option FieldType} {y2 : MethodName} {b2 : ByteArray} {n2 : Nat} {r2 : Option FieldType} {A1 A2 : List Value} {G : ax_G} {I : ax_I} {L : ax_L} {v1 v2 : Int64} {I1 I2 : ax_I} {L1 L2 : ax_L}
    (c1 : ax_Con l D T o y1 b1 n1 r1 d 0 0 A1 G I L (fun z G' I' L' => z = some (.long v1) ∧ G = G' ∧ I1 = I' ∧ L1 = L'))
    (c2 : ax_Con l D T o y2 b2 n2 r2 d 0 0 A2 G I1 L1 (fun z G' I' L' => z = some (.long v2) ∧ G = G' ∧ I2 = I' ∧ L2 = L'))
    (hv : v1 = v2) (hr : Rel G I2 L2) :
    ∃ v : Int64, ax_Con l D T o y1 b1 n1 r1 d 0 0 A1 G I L (fun z G' I' L' => z = some (.long v) ∧ G = G' ∧ ax_Con l D T o y2 b2 n2 r2 d 0 0 A2 G I' L' (fun z2 G2 I2 L2 => z2 = some (.long v) ∧ Rel G2 I2 L2)) := by
  subst hv
  refine ⟨v1, c1.mono ?_⟩
  rintro z G' I' L' ⟨h1, h2, rfl, rfl⟩
  refine ⟨h1, h2, c2.mono ?_⟩
  rintro z' G'' I'' L'' ⟨h1, rfl, rfl, rfl⟩
  exact ⟨h1, hr⟩
/-! the State at the cell b of the class tells what the row S of the reference tells -/
def rl_g (b : Nat) (I : ax_I) (S : Nat → Int32) : Prop := ∀ g, g < 6 → I (b + 1) g = S (14 * g) ∧ I (b + 2) g = S (14 * g + 1)
def rl_r (b : Nat) (I : ax_I) (S : Nat → Int32) : Prop := ∀ g r k, g < 6 → r < 4 → k < 3 → r < (S (14 * g + 1)).toNatClampNeg → I (b + 3) (12 * g + 3 * r + k) = if k < (S (14 * g)).toNatClampNeg then S (14 * g + 2 + 3 * r + k) else 0
def rl_m (b : Nat) (I : ax_I) (S : Nat → Int32) : Prop := ∀ f, f < 8 → I (b + 4) f = S (84 + 11 * f) ∧ (S (84 + 11 * f) = -1 → I (b + 5) f = -1) ∧ (¬ S (84 + 11 * f) = -1 → I (b + 5) f = S (84 + 11 * f + 1) ∧ ∀ j, j < 9 → I (b + 6) (9 * f + j) = S (84 + 11 * f + 2 + j))
def rl_p (b : Nat) (I : ax_I) (S : Nat → Int32) : Prop := I b 6 = S 172 ∧ ∀ k, k < 12 → k < (S 172).toNatClampNeg → I (b + 7) k = S (173 + 15 * k) ∧ I (b + 8) k = S (173 + 15 * k + 1) ∧ (S (173 + 15 * k) = nI 2 → I (b + 9) k = S (173 + 15 * k + 2) ∧ I (b + 10) k = S (173 + 15 * k + 3) ∧ I (b + 11) k = S (173 + 15 * k + 4) ∧ I (b + 12) k = S (173 + 15 * k + 5) ∧ ∀ j, j < 9 → I (b + 13) (9 * k + j) = S (173 + 15 * k + 6 + j))
/-! what holds of the numbers of a row -/
def rl_Wg (S : Nat → Int32) : Prop := ∀ g, g < 6 → ∃ n c, n ≤ 3 ∧ c ≤ 4 ∧ S (14 * g) = nI n ∧ S (14 * g + 1) = nI c ∧ ∀ r k, r < c → k < 3 → ax_in3 (S (14 * g + 2 + 3 * r + k)).toInt64 (-9) 9 = true
def rl_Wm (S : Nat → Int32) : Prop := ∀ f, f < 8 → S (84 + 11 * f) = -1 ∨ ∃ p r x y, ax_Mp S f p r x y ∧ ∀ i j, i < 3 → j < 3 → ax_in3 (S (84 + 11 * f + 2 + 3 * i + j)).toInt64 (-99) 99 = true ∧ (¬ (i < x ∧ j < y) → S (84 + 11 * f + 2 + 3 * i + j) = 0)
def rl_Wp (S : Nat → Int32) : Prop := ∃ p, p ≤ 12 ∧ S 172 = nI p ∧ ∀ k, k < p → an_isMove (S (173 + 15 * k)) (S (173 + 15 * k + 1)) = true ∨ (S (173 + 15 * k) = nI 2 ∧ ∃ g h x y, g < 6 ∧ h < 6 ∧ x ≤ 3 ∧ y ≤ 3 ∧ S (173 + 15 * k + 2) = nI g ∧ S (173 + 15 * k + 3) = nI h ∧ S (173 + 15 * k + 4) = nI x ∧ S (173 + 15 * k + 5) = nI y ∧ ∀ i j, i < 3 → j < 3 → ax_in3 (S (173 + 15 * k + 6 + 3 * i + j)).toInt64 (-99) 99 = true ∧ (¬ (i < x ∧ j < y) → S (173 + 15 * k + 6 + 3 * i + j) = 0))
def rl_St (b : Nat) (I : ax_I) (S : Nat → Int32) : Prop := (rl_g b I S ∧ rl_r b I S ∧ rl_m b I S ∧ rl_p b I S) ∧ rl_Wg S ∧ rl_Wm S ∧ rl_Wp S
/-- the latest States, the oldest first -/
def rl_H (I : ax_I) : Prop := ∃ c k, c < 20 ∧ k ≤ 20 ∧ I 29 1 = nI c ∧ I 29 2 = nI k ∧ I 639 3 = nI k ∧ ∀ i, i < k → rl_St (31 + 14 * ((c + 20 - k + i) % 20)) I (fun z => I 642 (353 * i + z))
def rl_K (I : ax_I) : Prop := (I 0 2 = nI 0 ∧ I 639 4 = nI 0) ∨ (I 0 2 = nI 1 ∧ I 639 4 = nI 1 ∧ rl_St 15 I (I 641))
def rl_T (I : ax_I) : Prop := ∃ t, t ≤ 100 ∧ I 311 1 = nI t ∧ I 639 29 = nI t ∧ ∀ i, i < t → ∃ v, v ≤ 255 ∧ I 312 i = nI v ∧ I 657 i = (nI v).toInt8.toInt32
def rl_P (I : ax_I) (L : ax_L) : Prop := ∀ j, j < 4 → (∃ n, n ≤ 40 ∧ I (623 + 2 * j) 1 = nI n ∧ I 668 j = nI n) ∧ I (623 + 2 * j) 0 = I 667 j ∧ (I 667 j = -1 ∨ ∃ u, u ≤ 2 ∧ I 667 j = nI u) ∧ ∀ i, i < 40 → L (624 + 2 * j) i = L 669 (40 * j + i)
def rl_V (I : ax_I) (L : ax_L) : Prop := ∀ j, j < 4 → (I (631 + 2 * j) 0 = -1 ∧ I (631 + 2 * j) 2 = -1 ∧ I 670 j = -1) ∨ (∃ g, g < 6 ∧ I (631 + 2 * j) 0 = nI g ∧ I (631 + 2 * j) 2 = -1 ∧ I 670 j = nI g ∧ ∀ k, k < 3 → L (632 + 2 * j) k = L 672 (3 * j + k)) ∨ (∃ u, u ≤ 2 ∧ I (631 + 2 * j) 0 = -1 ∧ I (631 + 2 * j) 2 = nI u ∧ I 670 j = nI (10 + u) ∧ I (631 + 2 * j) 3 = I 671 j)
def rl_Rel (G : ax_G) (I : ax_I) (L : ax_L) : Prop := rl_F G ∧ rl_St 1 I (I 640) ∧ rl_H I ∧ rl_K I ∧ rl_T I ∧ rl_P I L ∧ rl_V I L
/-! what lies elsewhere may change -/
theorem rl_g.keep {b : Nat} {I J : ax_I} {S S2 : Nat → Int32} (h : rl_g b I S) (h1 : J (b + 1) = I (b + 1)) (h2 : J (b + 2) = I (b + 2)) (hS : ∀ z, z < 84 → S2 z = S z) : rl_g b J S2 := by
  intro g hg
  rw [h1, h2, hS _ (by omega), hS _ (by omega)]
  exact h g hg
theorem rl_r.keep {b : Nat} {I J : ax_I} {S S2 : Nat → Int32} (h : rl_r b I S) (h1 : J (b + 3) = I (b + 3)) (hS : ∀ z, z < 84 → S2 z = S z) : rl_r b J S2 := by
  intro g r k hg hr hk hc
  rw [hS _ (by omega)] at hc
  rw [h1, hS _ (by omega), hS _ (by omega)]
  exact h g r k hg hr hk hc
theorem rl_m.keep {b : Nat} {I J : ax_I} {S S2 : Nat → Int32} (h : rl_m b I S) (h1 : J (b + 4) = I (b + 4)) (h2 : J (b + 5) = I (b + 5)) (h3 : J (b + 6) = I (b + 6)) (hS : ∀ z, 84 ≤ z → z < 172 → S2 z = S z) : rl_m b J S2 := by
  intro f hf
  rw [h1, h2, h3, hS _ (by omega) (by omega), hS (84 + 11 * f + 1) (by omega) (by omega)]
  obtain ⟨a1, a2, a3⟩ := h f hf
  exact ⟨a1, a2, fun hm => ⟨(a3 hm).1, fun j hj => by rw [hS _ (by omega) (by omega)]; exact (a3 hm).2 j hj⟩⟩
theorem rl_p.keep {b : Nat} {I J : ax_I} {S S2 : Nat → Int32} (h : rl_p b I S) (h0 : J b 6 = I b 6) (hJ : ∀ q, b + 7 ≤ q → q < b + 14 → J q = I q) (hS : ∀ z, 172 ≤ z → z < 353 → S2 z = S z) : rl_p b J S2 := by
  obtain ⟨a1, a2⟩ := h
  unfold rl_p
  rw [h0, hS 172 (by omega) (by omega), hJ (b + 7) (by omega) (by omega), hJ (b + 8) (by omega) (by omega), hJ (b + 9) (by omega) (by omega), hJ (b + 10) (by omega) (by omega), hJ (b + 11) (by omega) (by omega), hJ (b + 12) (by omega) (by omega), hJ (b + 13) (by omega) (by omega)]
  refine ⟨a1, fun k hk hp => ?_⟩
  obtain ⟨r1, r2, r3⟩ := a2 k hk hp
  rw [hS _ (by omega) (by omega), hS _ (by omega) (by omega), hS _ (by omega) (by omega), hS _ (by omega) (by omega), hS _ (by omega) (by omega), hS _ (by omega) (by omega)]
  refine ⟨r1, r2, fun hs => ?_⟩
  obtain ⟨t1, t2, t3, t4, t5⟩ := r3 hs
  exact ⟨t1, t2, t3, t4, fun j hj => by rw [hS _ (by omega) (by omega)]; exact t5 j hj⟩
theorem rl_Wg.keep {S S2 : Nat → Int32} (h : rl_Wg S) (hS : ∀ z, z < 84 → S2 z = S z) : rl_Wg S2 := by
  intro g hg
  obtain ⟨n, c, h1, h2, h3, h4, h5⟩ := h g hg
  exact ⟨n, c, h1, h2, by rw [hS _ (by omega)]; exact h3, by rw [hS _ (by omega)]; exact h4, fun r k hr hk => by rw [hS _ (by omega)]; exact h5 r k hr hk⟩
theorem rl_Wm.keep {S S2 : Nat → Int32} (h : rl_Wm S) (hS : ∀ z, 84 ≤ z → z < 172 → S2 z = S z) (hg : ∀ g, g < 6 → S2 (14 * g) = S (14 * g)) : rl_Wm S2 := by
  intro f hf
  rcases h f hf with h1 | ⟨p, r, x, y, ⟨m1, m2, m3, m4, m5, m6, m7, m8, m9⟩, h2⟩
  · exact Or.inl (by rw [hS _ (by omega) (by omega)]; exact h1)
  · refine Or.inr ⟨p, r, x, y, ⟨m1, m2, m3, m4, m5, ?_, ?_, ?_, ?_⟩, fun i j hi hj => ?_⟩
    · rw [hS _ (by omega) (by omega)]; exact m6
    · rw [hS _ (by omega) (by omega)]; exact m7
    · rw [hg _ m2]; exact m8
    · rw [hg _ m3]; exact m9
    · rw [hS _ (by omega) (by omega)]; exact h2 i j hi hj
theorem rl_Wp.keep {S S2 : Nat → Int32} (h : rl_Wp S) (hS : ∀ z, 172 ≤ z → z < 353 → S2 z = S z) : rl_Wp S2 := by
  obtain ⟨p, hp, h1, h2⟩ := h
  refine ⟨p, hp, by rw [hS _ (by omega) (by omega)]; exact h1, fun k hk => ?_⟩
  rw [hS _ (by omega) (by omega), hS (173 + 15 * k + 1) (by omega) (by omega), hS (173 + 15 * k + 2) (by omega) (by omega), hS (173 + 15 * k + 3) (by omega) (by omega), hS (173 + 15 * k + 4) (by omega) (by omega), hS (173 + 15 * k + 5) (by omega) (by omega)]
  rcases h2 k hk with h3 | ⟨h3, g, h, x, y, a1, a2, a3, a4, a5, a6, a7, a8, a9⟩
  · exact Or.inl h3
  · exact Or.inr ⟨h3, g, h, x, y, a1, a2, a3, a4, a5, a6, a7, a8, fun i j hi hj => by rw [hS _ (by omega) (by omega)]; exact a9 i j hi hj⟩
theorem rl_St.keep {b : Nat} {I J : ax_I} {S S2 : Nat → Int32} (h : rl_St b I S) (h0 : J b 6 = I b 6) (hJ : ∀ q, b < q → q < b + 14 → J q = I q) (hS : ∀ z, z < 353 → S2 z = S z) : rl_St b J S2 := by
  obtain ⟨⟨h1, h2, h3, h4⟩, h5, h6, h7⟩ := h
  exact ⟨⟨h1.keep (hJ _ (by omega) (by omega)) (hJ _ (by omega) (by omega)) (fun z hz => hS z (by omega)), h2.keep (hJ _ (by omega) (by omega)) (fun z hz => hS z (by omega)), h3.keep (hJ _ (by omega) (by omega)) (hJ _ (by omega) (by omega)) (hJ _ (by omega) (by omega)) (fun z _ hz => hS z (by omega)), h4.keep h0 (fun q h1 h2 => hJ q (by omega) h2) (fun z _ hz => hS z (by omega))⟩, h5.keep (fun z hz => hS z (by omega)), h6.keep (fun z _ hz => hS z (by omega)) (fun g hg => hS _ (by omega)), h7.keep (fun z _ hz => hS z hz)⟩
/-- what is at work may change -/
theorem rl_Rel.keep {G : ax_G} {I J : ax_I} {L M : ax_L} (h : rl_Rel G I L) (h0 : J 0 2 = I 0 2) (h1 : ∀ q, 0 < q → q < 311 → J q = I q) (h2 : J 311 1 = I 311 1) (h3 : J 312 = I 312) (h4 : ∀ q, 623 ≤ q → q < 639 → J q = I q) (h5 : J 639 3 = I 639 3) (h6 : J 639 4 = I 639 4) (h7 : J 639 29 = I 639 29) (h8 : ∀ q, 640 ≤ q → q < 643 → J q = I q) (h9 : J 657 = I 657) (h10 : ∀ q, 667 ≤ q → q < 673 → J q = I q)
    (k1 : ∀ q, 623 ≤ q → q < 639 → M q = L q) (k2 : M 669 = L 669) (k3 : M 672 = L 672) : rl_Rel G J M := by
  obtain ⟨r1, r2, ⟨c, k, a1, a2, a3, a4, a5, a6⟩, r4, ⟨t, b1, b2, b3, b4⟩, r6, r7⟩ := h
  refine ⟨r1, ?_, ⟨c, k, a1, a2, ?_, ?_, ?_, ?_⟩, ?_, ⟨t, b1, ?_, ?_, ?_⟩, ?_, ?_⟩
  · rw [h8 640 (by omega) (by omega)]
    exact r2.keep (by rw [h1 1 (by omega) (by omega)]) (fun q z1 z2 => h1 q (by omega) (by omega)) (fun _ _ => rfl)
  · rw [h1 29 (by omega) (by omega)]; exact a3
  · rw [h1 29 (by omega) (by omega)]; exact a4
  · rw [h5]; exact a5
  · intro i hi
    have hm : (c + 20 - k + i) % 20 < 20 := Nat.mod_lt _ (by omega)
    rw [h8 642 (by omega) (by omega)]
    exact (a6 i hi).keep (by rw [h1 _ (by omega) (by omega)]) (fun q z1 z2 => h1 q (by omega) (by omega)) (fun _ _ => rfl)
  · rcases r4 with ⟨q1, q2⟩ | ⟨q1, q2, q3⟩
    · exact Or.inl ⟨h0.trans q1, h6.trans q2⟩
    · refine Or.inr ⟨h0.trans q1, h6.trans q2, ?_⟩
      rw [h8 641 (by omega) (by omega)]
      exact q3.keep (by rw [h1 15 (by omega) (by omega)]) (fun q z1 z2 => h1 q (by omega) (by omega)) (fun _ _ => rfl)
  · rw [h2]; exact b2
  · rw [h7]; exact b3
  · intro i hi; rw [h3, h9]; exact b4 i hi
  · intro j hj
    rw [h4 (623 + 2 * j) (by omega) (by omega), h10 667 (by omega) (by omega), h10 668 (by omega) (by omega), k1 (624 + 2 * j) (by omega) (by omega), k2]
    exact r6 j hj
  · intro j hj
    rw [h4 (631 + 2 * j) (by omega) (by omega), h10 670 (by omega) (by omega), h10 671 (by omega) (by omega), k1 (632 + 2 * j) (by omega) (by omega), k3]
    exact r7 j hj
/-- only numbers at work have changed -/
theorem rl_Rel.keepL {G : ax_G} {I : ax_I} {L M : ax_L} (h : rl_Rel G I L) (k1 : ∀ q, 623 ≤ q → q < 639 → M q = L q) (k2 : M 669 = L 669) (k3 : M 672 = L 672) : rl_Rel G I M :=
  h.keep rfl (fun _ _ _ => rfl) rfl rfl (fun _ _ _ => rfl) rfl rfl rfl (fun _ _ _ => rfl) rfl (fun _ _ _ => rfl) k1 k2 k3
theorem rl_rng {x : Int32} {m : Nat} (hm : m < 2 ^ 31) (hm0 : 0 < m) : ax_rng x (nI m) = ax_in3 x.toInt64 0 (lN (m - 1)) := by
  cases h : ax_in3 x.toInt64 0 (lN (m - 1)) with
  | true =>
    obtain ⟨j, hj, rfl⟩ := ax_in3_nat (by omega) h
    exact ax_rng_ok (by omega) hm
  | false =>
    cases h2 : ax_rng x (nI m) with
    | false => rfl
    | true =>
      exfalso
      unfold ax_rng at h2
      simp only [Bool.and_eq_true, Bool.not_eq_true', decide_eq_false_iff_not, Int32.not_lt, Int32.not_le] at h2
      have h3 := Int32.le_iff_toInt_le.mp h2.1
      have h4 := Int32.lt_iff_toInt_lt.mp h2.2
      rw [nI_toInt hm] at h4
      have h5 : (0 : Int32).toInt = 0 := by decide
      rw [h5] at h3
      have e : x = nI x.toInt.toNat := Int32.toInt_inj.mp (by rw [nI_toInt (by omega)]; omega)
      rw [e, ax_in3_ok (by omega) (by omega)] at h
      cases h

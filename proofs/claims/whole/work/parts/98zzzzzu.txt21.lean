/-! ===== text: the relation behind a text ===== -/
theorem rl_Rel.emp {G : ax_G} {I J : ax_I} {L M : ax_L} (h : rl_Rel G I L) (hJ : ∀ q, (q < 311 ∨ (623 ≤ q ∧ q < 639) ∨ (640 ≤ q ∧ q < 643) ∨ (667 ≤ q ∧ q < 673)) → J q = I q) (h1 : J 311 1 = nI 0) (h2 : J 639 29 = nI 0) (h3 : J 639 3 = I 639 3) (h4 : J 639 4 = I 639 4) (hM : ∀ q, ((623 ≤ q ∧ q < 639) ∨ q = 669 ∨ q = 672) → M q = L q) : rl_Rel G J M := by
  obtain ⟨r1, r2, r3, r4, -, r6, r7⟩ := h
  obtain ⟨c, k, a1, a2, a3, a4, a5, a6⟩ := r3
  refine ⟨r1, ?_, ⟨c, k, a1, a2, ?_, ?_, ?_, fun i hi => ?_⟩, ?_, ⟨0, by omega, h1, h2, fun i hi => absurd hi (Nat.not_lt_zero _)⟩, fun j hj => ?_, fun j hj => ?_⟩
  · rw [hJ 640 (by omega)]
    exact r2.keep (by rw [hJ 1 (by omega)]) (fun q z1 z2 => hJ q (by omega)) (fun _ _ => rfl)
  · rw [hJ 29 (by omega)]; exact a3
  · rw [hJ 29 (by omega)]; exact a4
  · rw [h3]; exact a5
  · have hlt : (c + 20 - k + i) % 20 < 20 := Nat.mod_lt _ (by omega)
    rw [hJ 642 (by omega)]
    exact (a6 i hi).keep (by rw [hJ _ (by omega)]) (fun q h1 h2 => hJ q (by omega)) (fun _ _ => rfl)
  · rcases r4 with ⟨q1, q2⟩ | ⟨q1, q2, q3⟩
    · exact Or.inl ⟨by rw [hJ 0 (by omega)]; exact q1, h4.trans q2⟩
    · refine Or.inr ⟨by rw [hJ 0 (by omega)]; exact q1, h4.trans q2, ?_⟩
      rw [hJ 641 (by omega)]
      exact q3.keep (by rw [hJ 15 (by omega)]) (fun q h1 h2 => hJ q (by omega)) (fun _ _ => rfl)
  · rw [hJ (623 + 2 * j) (by omega), hJ 667 (by omega), hJ 668 (by omega), hM (624 + 2 * j) (by omega), hM 669 (by omega)]
    exact r6 j hj
  · rw [hJ (631 + 2 * j) (by omega), hJ 670 (by omega), hJ 671 (by omega), hM (632 + 2 * j) (by omega), hM 672 (by omega)]
    exact r7 j hj
theorem rl_Rel.txt {c k : Nat} {G : ax_G} {I Ic J X : ax_I} {L M : ax_L} (h : rl_Rel G I L) (hc : c < 20) (hk : k ≤ 20) (h0 : ∀ i, i < k → rl_St (31 + 14 * ((c + 20 - k + i) % 20)) I (fun z => I 642 (353 * i + z)))
    (c1 : ∀ q, q < 311 → Ic q = I q) (c2 : Ic 640 = I 640) (c3 : Ic 642 = I 642) (x1 : X 640 = I 640) (x2 : X 642 = I 642) (hS : rl_St 1 J (J 640)) (hJ : ∀ q, 29 ≤ q → q < 311 → J q = ax_rem 0 c k Ic q) (hJ2 : ∀ q, (q = 0 ∨ (15 ≤ q ∧ q < 29) ∨ (623 ≤ q ∧ q < 639) ∨ q = 641 ∨ (667 ≤ q ∧ q < 673)) → J q = I q) (g3 : J 639 3 = ax_ch 639 k X 639 3) (g4 : J 642 = ax_ch 639 k X 642)
    (h1 : J 311 1 = nI 0) (h2 : J 639 29 = nI 0) (h4 : J 639 4 = I 639 4) (hM : ∀ q, ((623 ≤ q ∧ q < 639) ∨ q = 669 ∨ q = 672) → M q = L q) : rl_Rel G J M := by
  obtain ⟨r1, r2, -, r4, -, r6, r7⟩ := h
  have r2c : rl_St 1 Ic (Ic 640) := by
    rw [c2]; exact r2.keep (by rw [c1 1 (by omega)]) (fun q z1 z2 => c1 q (by omega)) (fun _ _ => rfl)
  refine ⟨r1, hS, rl_H.chg r2c hc hk (fun i hi => ?_) hJ g3 g4 (x1.trans c2.symm) (x2.trans c3.symm), ?_, ⟨0, by omega, h1, h2, fun i hi => absurd hi (Nat.not_lt_zero _)⟩, fun j hj => ?_, fun j hj => ?_⟩
  · have hlt : (c + 20 - k + i) % 20 < 20 := Nat.mod_lt _ (by omega)
    rw [c3]
    exact (h0 i hi).keep (by rw [c1 _ (by omega)]) (fun q h1 h2 => c1 q (by omega)) (fun _ _ => rfl)
  · rcases r4 with ⟨q1, q2⟩ | ⟨q1, q2, q3⟩
    · exact Or.inl ⟨by rw [hJ2 0 (by omega)]; exact q1, h4.trans q2⟩
    · refine Or.inr ⟨by rw [hJ2 0 (by omega)]; exact q1, h4.trans q2, ?_⟩
      rw [hJ2 641 (by omega)]
      exact q3.keep (by rw [hJ2 15 (by omega)]) (fun q h1 h2 => hJ2 q (by omega)) (fun _ _ => rfl)
  · rw [hJ2 (623 + 2 * j) (by omega), hJ2 667 (by omega), hJ2 668 (by omega), hM (624 + 2 * j) (by omega), hM 669 (by omega)]
    exact r6 j hj
  · rw [hJ2 (631 + 2 * j) (by omega), hJ2 670 (by omega), hJ2 671 (by omega), hM (632 + 2 * j) (by omega), hM 672 (by omega)]
    exact r7 j hj
/-! ===== text: what the class reads ===== -/
noncomputable section
def tI5 (I : ax_I) : ax_I := ax_u (ax_u (ax_u (ax_u (ax_u I 311 2 (nI 0)) 311 3 (ax_b false)) 311 4 (ax_b false)) 311 5 (ax_b false)) 311 6 (ax_b false)
def tZs (I : ax_I) (L : ax_L) (c : Nat) (W : Nat → Int32) : ax_ZS := ax_zs 311 c 1 W 4 0 (0, false, false, false, false, tI5 I, L)
end
theorem t_rev {I : ax_I} {L : ax_L} {c : Nat} {W : Nat → Int32} : ax_rev I L 311 c 1 W = if (tZs I L c W).2.1 = true then (-100) - nI (tZs I L c W).1 else (if ax_vl W c (ax_nx W (c - (tZs I L c W).1) (tZs I L c W).1) = -1 then (if (tZs I L c W).2.2.1 = true then (-300) else (if (tZs I L c W).2.2.2.1 = true then (-301) else (if (tZs I L c W).2.2.2.2.1 = true then (-16) else nI 1))) else (-100) - nI (ax_nx W (c - (tZs I L c W).1) (tZs I L c W).1)) := by
  unfold ax_rev tZs tI5; rfl
theorem t_reL {I : ax_I} {L : ax_L} {c : Nat} {W : Nat → Int32} : ax_reL I L 311 c 1 W = (tZs I L c W).2.2.2.2.2.2 := by
  unfold ax_reL tZs tI5; rfl
theorem t_reI {I : ax_I} {L : ax_L} {c : Nat} {W : Nat → Int32} : (∀ q, q ≠ 311 → ax_reI I L 311 c 1 W q = (tZs I L c W).2.2.2.2.2.1 q) ∧ ax_reI I L 311 c 1 W 311 1 = nI 0 := by
  have e : ax_reI I L 311 c 1 W = if (tZs I L c W).2.1 = true then ax_u (tZs I L c W).2.2.2.2.2.1 311 1 (nI 0) else (if ax_vl W c (ax_nx W (c - (tZs I L c W).1) (tZs I L c W).1) = -1 then ax_u (ax_u (tZs I L c W).2.2.2.2.2.1 311 2 (nI (ax_nx W (c - (tZs I L c W).1) (tZs I L c W).1))) 311 1 (nI 0) else ax_u (ax_u (ax_u (tZs I L c W).2.2.2.2.2.1 311 2 (nI (ax_nx W (c - (tZs I L c W).1) (tZs I L c W).1))) 311 3 (ax_b true)) 311 1 (nI 0)) := by
    unfold ax_reI tZs tI5; rfl
  rw [e]
  generalize tZs I L c W = Z
  refine ⟨fun q hq => ?_, ?_⟩
  · split
    · rw [ax_u_ne hq]
    · split
      · rw [ax_u_ne hq, ax_u_ne hq]
      · rw [ax_u_ne hq, ax_u_ne hq, ax_u_ne hq]
  · split
    · rw [ax_u_at]
    · split
      · rw [ax_u_at]
      · rw [ax_u_at]
theorem t_Zf {I : ax_I} {L : ax_L} {c q : Nat} {W : Nat → Int32} (h : (q ≠ 311 ∧ q < 316) ∨ 361 ≤ q) : (tZs I L c W).2.2.2.2.2.1 q = I q ∧ (tZs I L c W).2.2.2.2.2.2 q = L q := by
  unfold tZs
  have := tf_zs (r := 311) (c := c) (s := 1) (W := W) 4 0 (by omega) q (by unfold tf; omega) (0, false, false, false, false, tI5 I, L)
  refine ⟨this.1.trans ?_, this.2⟩
  show tI5 I q = I q
  unfold tI5
  rw [ax_u_ne (by omega), ax_u_ne (by omega), ax_u_ne (by omega), ax_u_ne (by omega), ax_u_ne (by omega)]
theorem t_neg100 : ∀ p, p < 101 → (-100 : Int32) - nI p < 0 := by decide +kernel

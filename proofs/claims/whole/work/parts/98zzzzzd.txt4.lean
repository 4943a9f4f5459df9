/-! ===== text: the class reads what stands in brackets, or nothing ===== -/
theorem on_br {I : ax_I} {L : ax_L} {r c p s e n n2 p1 : Nat} {W : Nat → Int32} {fa nm nf tg b : Bool} {sub : ax_ZS → ax_ZS} (hn : n < 257) (hv : ax_vl W c (ax_nx W (c - p) p) = tw n) (hb : t_nb b n (ax_nx W (c - p) p) p1) (hv2 : ax_vl W c (ax_nx W (c - p1) p1) = tw 40) (he : e < 4) :
    ∃ I2 : ax_I, (∀ q, q ≠ r → I2 q = I q) ∧ ∀ S2, S2 = sub (ax_nx W (c - p1) p1 + 1, fa, nm, nf, tg, I2, L) →
    ax_on_p I L r c p e W fa nm nf tg sub = (if S2.2.1 = true then S2.1 else ax_tkh W c S2.1 false (nI 41)) ∧ ax_on_fa I L r c p e W fa nm nf tg sub = (if S2.2.1 = true then true else if ax_tk W c S2.1 false (nI 41) = true then false else true) ∧ ax_on_nm I L r c p s e W fa nm nf tg sub = S2.2.2.1 ∧ ax_on_nf I L r c p e W fa nm nf tg sub = S2.2.2.2.1 ∧
      ax_on_tg I L r c p s e W fa nm nf tg sub = (if b = true then (S2.2.2.2.2.1 || !t_in (fun z => S2.2.2.2.2.2.2 (r + (6 + 9 * (e + 1))) z * lN (n - 48))) else S2.2.2.2.2.1) ∧
      tc (ax_onI I L r c p s e W fa nm nf tg sub) (ax_onL I L r c p s e W fa nm nf tg sub) (r + (11 + 9 * e)) (r + (12 + 9 * e)) (S2.2.2.2.2.2.1 (r + (5 + 9 * (e + 1))) 0, S2.2.2.2.2.2.1 (r + (5 + 9 * (e + 1))) 1, if b = true then t_w (fun z => S2.2.2.2.2.2.2 (r + (6 + 9 * (e + 1))) z * lN (n - 48)) else S2.2.2.2.2.2.2 (r + (6 + 9 * (e + 1)))) := by
  obtain ⟨k1, k2, -, -, -⟩ := t_nums n hn
  rw [← hv] at k1 k2
  have h97 : ax_vl W c (ax_nx W (c - p1) p1) < nI 97 := by rw [hv2]; decide
  have h40 : ax_vl W c (ax_nx W (c - p1) p1) = nI 40 := by rw [hv2]; decide
  have h4 : ¬ 4 ≤ e := by omega
  rcases hb with ⟨rfl, hn3, rfl⟩ | ⟨rfl, hn3, hn4, rfl⟩
  · by_cases cA : ax_vl W c (ax_nx W (c - p) p) < nI 48
    · skip
      refine ⟨ax_u (ax_u (ax_u I r 2 (nI (ax_nx W (c - p) p))) r 2 (nI (ax_nx W (c - (ax_nx W (c - p) p)) (ax_nx W (c - p) p)))) r 2 (nI (ax_nx W (c - (ax_nx W (c - p) p)) (ax_nx W (c - p) p) + 1)), fun q hq => by rw [ax_u_ne hq, ax_u_ne hq, ax_u_ne hq], fun S2 hS => ?_⟩
      have x1 : ax_on_p I L r c p e W fa nm nf tg sub = (if S2.2.1 = true then S2.1 else ax_tkh W c S2.1 false (nI 41)) := by unfold ax_on_p; rw [if_pos cA, if_pos h97, if_pos h40, if_neg h4, ← hS]
      have x2 : ax_on_fa I L r c p e W fa nm nf tg sub = (if S2.2.1 = true then true else if ax_tk W c S2.1 false (nI 41) = true then false else true) := by unfold ax_on_fa; rw [if_pos cA, if_pos h97, if_pos h40, if_neg h4, ← hS]
      have x3 : ax_on_nm I L r c p s e W fa nm nf tg sub = S2.2.2.1 := by unfold ax_on_nm; rw [if_pos cA, if_pos h97, if_pos h40, if_neg h4, ← hS]
      have x4 : ax_on_nf I L r c p e W fa nm nf tg sub = S2.2.2.2.1 := by unfold ax_on_nf; rw [if_pos cA, if_pos h97, if_pos h40, if_neg h4, ← hS]
      have x5 : ax_on_tg I L r c p s e W fa nm nf tg sub = S2.2.2.2.2.1 := by unfold ax_on_tg; rw [if_pos cA, if_pos h97, if_pos h40, if_neg h4, ← hS]
      refine ⟨x1, x2, x3, x4, x5, ?_⟩
      unfold tc ax_onI ax_onL
      rw [if_pos cA, if_pos h97, if_pos h40, if_neg h4, if_pos cA, if_pos h97, if_pos h40, if_neg h4, ← hS]
      refine ⟨?_, ?_, fun z hz => t_cp hz⟩
      · (repeat' split) <;> (repeat (first | rw [ax_u_at] | rw [ax_u_nj (by decide)] | rw [ax_u_ne (by omega)]))
      · (repeat' split) <;> (repeat (first | rw [ax_u_at] | rw [ax_u_nj (by decide)] | rw [ax_u_ne (by omega)]))
    · have cB : nI 57 < ax_vl W c (ax_nx W (c - p) p) := k2.mpr (by
        have : ¬ (n < 48 ∨ n = 256) := fun h => cA (k1.mpr h)
        omega)
      refine ⟨ax_u (ax_u (ax_u I r 2 (nI (ax_nx W (c - p) p))) r 2 (nI (ax_nx W (c - (ax_nx W (c - p) p)) (ax_nx W (c - p) p)))) r 2 (nI (ax_nx W (c - (ax_nx W (c - p) p)) (ax_nx W (c - p) p) + 1)), fun q hq => by rw [ax_u_ne hq, ax_u_ne hq, ax_u_ne hq], fun S2 hS => ?_⟩
      have x1 : ax_on_p I L r c p e W fa nm nf tg sub = (if S2.2.1 = true then S2.1 else ax_tkh W c S2.1 false (nI 41)) := by unfold ax_on_p; rw [if_neg cA, if_pos cB, if_pos h97, if_pos h40, if_neg h4, ← hS]
      have x2 : ax_on_fa I L r c p e W fa nm nf tg sub = (if S2.2.1 = true then true else if ax_tk W c S2.1 false (nI 41) = true then false else true) := by unfold ax_on_fa; rw [if_neg cA, if_pos cB, if_pos h97, if_pos h40, if_neg h4, ← hS]
      have x3 : ax_on_nm I L r c p s e W fa nm nf tg sub = S2.2.2.1 := by unfold ax_on_nm; rw [if_neg cA, if_pos cB, if_pos h97, if_pos h40, if_neg h4, ← hS]
      have x4 : ax_on_nf I L r c p e W fa nm nf tg sub = S2.2.2.2.1 := by unfold ax_on_nf; rw [if_neg cA, if_pos cB, if_pos h97, if_pos h40, if_neg h4, ← hS]
      have x5 : ax_on_tg I L r c p s e W fa nm nf tg sub = S2.2.2.2.2.1 := by unfold ax_on_tg; rw [if_neg cA, if_pos cB, if_pos h97, if_pos h40, if_neg h4, ← hS]
      refine ⟨x1, x2, x3, x4, x5, ?_⟩
      unfold tc ax_onI ax_onL
      rw [if_neg cA, if_pos cB, if_pos h97, if_pos h40, if_neg h4, if_neg cA, if_pos cB, if_pos h97, if_pos h40, if_neg h4, ← hS]
      refine ⟨?_, ?_, fun z hz => t_cp hz⟩
      · (repeat' split) <;> (repeat (first | rw [ax_u_at] | rw [ax_u_nj (by decide)] | rw [ax_u_ne (by omega)]))
      · (repeat' split) <;> (repeat (first | rw [ax_u_at] | rw [ax_u_nj (by decide)] | rw [ax_u_ne (by omega)]))
  · have cA : ¬ ax_vl W c (ax_nx W (c - p) p) < nI 48 := fun h => by have := k1.mp h; omega
    have cB : ¬ nI 57 < ax_vl W c (ax_nx W (c - p) p) := fun h => by have := k2.mp h; omega
    have dg := (t_dig n (by omega) hn3).2
    rw [← hv] at dg
    refine ⟨ax_u (ax_u (ax_u (ax_u I r 2 (nI (ax_nx W (c - p) p))) r 2 (nI (ax_nx W (c - p) p + 1))) r 2 (nI (ax_nx W (c - (ax_nx W (c - p) p + 1)) (ax_nx W (c - p) p + 1)))) r 2 (nI (ax_nx W (c - (ax_nx W (c - p) p + 1)) (ax_nx W (c - p) p + 1) + 1)), fun q hq => by rw [ax_u_ne hq, ax_u_ne hq, ax_u_ne hq, ax_u_ne hq], fun S2 hS => ?_⟩
    have x1 : ax_on_p I L r c p e W fa nm nf tg sub = (if S2.2.1 = true then S2.1 else ax_tkh W c S2.1 false (nI 41)) := by unfold ax_on_p; rw [if_neg cA, if_neg cB, if_pos h97, if_pos h40, if_neg h4, ← hS]
    have x2 : ax_on_fa I L r c p e W fa nm nf tg sub = (if S2.2.1 = true then true else if ax_tk W c S2.1 false (nI 41) = true then false else true) := by unfold ax_on_fa; rw [if_neg cA, if_neg cB, if_pos h97, if_pos h40, if_neg h4, ← hS]
    have x3 : ax_on_nm I L r c p s e W fa nm nf tg sub = S2.2.2.1 := by unfold ax_on_nm; rw [if_neg cA, if_neg cB, if_pos h97, if_pos h40, if_neg h4, ← hS]
    have x4 : ax_on_nf I L r c p e W fa nm nf tg sub = S2.2.2.2.1 := by unfold ax_on_nf; rw [if_neg cA, if_neg cB, if_pos h97, if_pos h40, if_neg h4, ← hS]
    refine ⟨x1, x2, x3, x4, ?_, ?_⟩
    · unfold ax_on_tg
      rw [if_neg cA, if_neg cB, if_pos h97, if_pos h40, if_neg h4, ← hS, dg, t_wtg, if_pos rfl]
      congr 1
      congr 1
      exact t_in_cg (fun z hz => by rw [t_tml, if_pos hz, t_cp hz])
    · unfold tc ax_onI ax_onL
      rw [if_neg cA, if_neg cB, if_pos h97, if_pos h40, if_neg h4, if_neg cA, if_neg cB, if_pos h97, if_pos h40, if_neg h4, ← hS, dg, if_pos rfl]
      refine ⟨?_, ?_, fun z hz => ?_⟩
      · (repeat' split) <;> rw [tf_waI (by omega)] <;> (repeat (first | rw [ax_u_at] | rw [ax_u_nj (by decide)] | rw [ax_u_ne (by omega)]))
      · (repeat' split) <;> rw [tf_waI (by omega)] <;> (repeat (first | rw [ax_u_at] | rw [ax_u_nj (by decide)] | rw [ax_u_ne (by omega)]))
      · rw [t_wtL hz]
        exact t_w_cg (fun z hz => by rw [t_tml, if_pos hz, t_cp hz]) z hz
/-- nothing that can be read -/
theorem on_flt {I : ax_I} {L : ax_L} {r c p e n n2 p1 : Nat} {W : Nat → Int32} {fa nm nf tg b : Bool} {sub : ax_ZS → ax_ZS} (hn : n < 257) (hv : ax_vl W c (ax_nx W (c - p) p) = tw n) (hb : t_nb b n (ax_nx W (c - p) p) p1) (hn2 : n2 < 257) (hv2 : ax_vl W c (ax_nx W (c - p1) p1) = tw n2) (h2 : ¬ (97 ≤ n2 ∧ n2 ≤ 104)) (h3 : n2 = 40 → 4 ≤ e) : ax_on_p I L r c p e W fa nm nf tg sub = ax_nx W (c - p1) p1 ∧ ax_on_fa I L r c p e W fa nm nf tg sub = true := by
  obtain ⟨k1, k2, -, -, -⟩ := t_nums n hn
  obtain ⟨-, -, k3, k4, -⟩ := t_nums n2 hn2
  have k5 := (t_eqs n2 hn2 40 (by omega)).1
  rw [← hv] at k1 k2
  rw [← hv2] at k3 k4 k5
  have key : ∀ {α : Type} (x y z w v t : α), x = t → (ax_vl W c (ax_nx W (c - p1) p1) = nI 40 → ¬ 4 ≤ e → False) → y = t → (if ax_vl W c (ax_nx W (c - p1) p1) < nI 97 then (if ax_vl W c (ax_nx W (c - p1) p1) = nI 40 then (if 4 ≤ e then x else z) else y) else (if nI 105 ≤ ax_vl W c (ax_nx W (c - p1) p1) then (if ax_vl W c (ax_nx W (c - p1) p1) = nI 40 then (if 4 ≤ e then x else w) else y) else v)) = t := fun x y z w v t hx hc hy => by
    by_cases a : ax_vl W c (ax_nx W (c - p1) p1) < nI 97
    · rw [if_pos a]
      by_cases d : ax_vl W c (ax_nx W (c - p1) p1) = nI 40
      · rw [if_pos d]
        by_cases f : 4 ≤ e
        · rw [if_pos f]; exact hx
        · exact absurd (hc d f) id
      · rw [if_neg d]; exact hy
    · rw [if_neg a]
      have : nI 105 ≤ ax_vl W c (ax_nx W (c - p1) p1) := k4.mpr (by
        have : ¬ (n2 < 97 ∨ n2 = 256) := fun h => a (k3.mpr h)
        omega)
      rw [if_pos this]
      by_cases d : ax_vl W c (ax_nx W (c - p1) p1) = nI 40
      · rw [if_pos d]
        by_cases f : 4 ≤ e
        · rw [if_pos f]; exact hx
        · exact absurd (hc d f) id
      · rw [if_neg d]; exact hy
  have hc : ax_vl W c (ax_nx W (c - p1) p1) = nI 40 → ¬ 4 ≤ e → False := fun h g => g (h3 (k5.mp h))
  rcases hb with ⟨rfl, hn3, rfl⟩ | ⟨rfl, hn3, hn4, rfl⟩
  · by_cases cA : ax_vl W c (ax_nx W (c - p) p) < nI 48
    · refine ⟨?_, ?_⟩
      · unfold ax_on_p; rw [if_pos cA]; exact key _ _ _ _ _ _ rfl hc rfl
      · unfold ax_on_fa; rw [if_pos cA]; exact key _ _ _ _ _ _ rfl hc rfl
    · have cB : nI 57 < ax_vl W c (ax_nx W (c - p) p) := k2.mpr (by
        have : ¬ (n < 48 ∨ n = 256) := fun h => cA (k1.mpr h)
        omega)
      refine ⟨?_, ?_⟩
      · unfold ax_on_p; rw [if_neg cA, if_pos cB]; exact key _ _ _ _ _ _ rfl hc rfl
      · unfold ax_on_fa; rw [if_neg cA, if_pos cB]; exact key _ _ _ _ _ _ rfl hc rfl
  · have cA : ¬ ax_vl W c (ax_nx W (c - p) p) < nI 48 := fun h => by have := k1.mp h; omega
    have cB : ¬ nI 57 < ax_vl W c (ax_nx W (c - p) p) := fun h => by have := k2.mp h; omega
    refine ⟨?_, ?_⟩
    · unfold ax_on_p; rw [if_neg cA, if_neg cB]; exact key _ _ _ _ _ _ rfl hc rfl
    · unfold ax_on_fa; rw [if_neg cA, if_neg cB]; exact key _ _ _ _ _ _ rfl hc rfl

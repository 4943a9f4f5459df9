/-! ===== text: the class reads one ===== -/
theorem t_rm {I : ax_I} {L : ax_L} {r s f e : Nat} {nm : Bool} (hs : s + 14 ≤ r) : tc (ax_rmI I r s f e nm) (ax_rmL I L r s f e nm) (r + (11 + 9 * e)) (r + (12 + 9 * e)) (I (s + 4) f, I (s + 5) f, fun z => (I (s + 6) (9 * f + z)).toInt64) ∧ ax_rm_nm I s f nm = (nm || decide (I (s + 4) f = -1)) := by
  refine ⟨?_, ?_⟩
  · unfold tc ax_rmI ax_rmL
    split
    · refine ⟨?_, ?_, fun z hz => ?_⟩
      · rw [ax_u_nj (by decide), ax_u_at, ax_u_ne (by omega)]
      · rw [ax_u_at, ax_u_ne (by omega)]
      · rw [t_bmp, if_pos hz, ax_u_ne (by omega), ax_u_ne (by omega), ax_u_ne (by omega)]
    · refine ⟨?_, ?_, fun z hz => ?_⟩
      · rw [ax_u_nj (by decide), ax_u_at, ax_u_ne (by omega)]
      · rw [ax_u_at, ax_u_ne (by omega)]
      · rw [t_bmp, if_pos hz, ax_u_ne (by omega), ax_u_ne (by omega), ax_u_ne (by omega)]
  · unfold ax_rm_nm
    by_cases h : I (s + 4) f = -1
    · rw [decide_eq_true h]; rfl
    · rw [decide_eq_false h]; rfl
theorem t_mw {I : ax_I} {L : ax_L} {r x n : Nat} {v : Int64} {E : tE} (hx : x ≠ r) (hxr : r < x) (h : tc I L x n E) : tc (ax_waI I (ax_tml n v L 9) r n) (ax_wtL (ax_tml n v L 9) n) x n (E.1, E.2.1, t_w (fun z => E.2.2 z * v)) := by
  obtain ⟨h1, h2, h3⟩ := h
  refine ⟨by rw [tf_waI hx]; exact h1, by rw [tf_waI hx]; exact h2, fun z hz => ?_⟩
  rw [t_wtL hz]
  exact t_w_cg (fun z hz => by rw [t_tml, if_pos hz, h3 z hz]) z hz
/-- what stands before a one: a number, or none -/
def t_nb (b : Bool) (n : Nat) (q p1 : Nat) : Prop := (b = false ∧ ¬ (48 ≤ n ∧ n ≤ 57) ∧ p1 = q) ∨ (b = true ∧ 48 ≤ n ∧ n ≤ 57 ∧ p1 = q + 1)
theorem on_map {I : ax_I} {L : ax_L} {r c p s e n n2 p1 : Nat} {W : Nat → Int32} {fa nm nf tg b : Bool} {sub : ax_ZS → ax_ZS} (hs : s + 14 ≤ r) (hn : n < 257) (hv : ax_vl W c (ax_nx W (c - p) p) = tw n) (hb : t_nb b n (ax_nx W (c - p) p) p1) (hn2 : n2 < 257) (hv2 : ax_vl W c (ax_nx W (c - p1) p1) = tw n2) (h2 : 97 ≤ n2 ∧ n2 ≤ 104) :
    ax_on_p I L r c p e W fa nm nf tg sub = ax_nx W (c - p1) p1 + 1 ∧ ax_on_fa I L r c p e W fa nm nf tg sub = fa ∧ ax_on_nm I L r c p s e W fa nm nf tg sub = (nm || decide (I (s + 4) (n2 - 97) = -1)) ∧ ax_on_nf I L r c p e W fa nm nf tg sub = nf ∧
      ax_on_tg I L r c p s e W fa nm nf tg sub = (if b = true then (tg || !t_in (fun z => (I (s + 6) (9 * (n2 - 97) + z)).toInt64 * lN (n - 48))) else tg) ∧
      tc (ax_onI I L r c p s e W fa nm nf tg sub) (ax_onL I L r c p s e W fa nm nf tg sub) (r + (11 + 9 * e)) (r + (12 + 9 * e)) (I (s + 4) (n2 - 97), I (s + 5) (n2 - 97), if b = true then t_w (fun z => (I (s + 6) (9 * (n2 - 97) + z)).toInt64 * lN (n - 48)) else fun z => (I (s + 6) (9 * (n2 - 97) + z)).toInt64) := by
  obtain ⟨k1, k2, -, -, -⟩ := t_nums n hn
  obtain ⟨-, -, k3, k4, -⟩ := t_nums n2 hn2
  rw [← hv] at k1 k2
  rw [← hv2] at k3 k4
  have lt := (t_let n2 (by omega) h2.1).2
  rw [← hv2] at lt
  have h97 : ¬ ax_vl W c (ax_nx W (c - p1) p1) < nI 97 := fun h => by have := k3.mp h; omega
  have h105 : ¬ nI 105 ≤ ax_vl W c (ax_nx W (c - p1) p1) := fun h => by have := k4.mp h; omega
  have e4 : ∀ q, (q = s + 4 ∨ q = s + 5 ∨ q = s + 6) → ∀ (x y : Nat) (u v : Int32), ax_u (ax_u I r x u) r y v q = I q := fun q hq x y u v => by rw [ax_u_ne (by omega), ax_u_ne (by omega)]
  have e5 : ∀ q, (q = s + 4 ∨ q = s + 5 ∨ q = s + 6) → ∀ (x y z : Nat) (u v w : Int32), ax_u (ax_u (ax_u I r x u) r y v) r z w q = I q := fun q hq x y z u v w => by rw [ax_u_ne (by omega), e4 q hq]
  have e6 : ∀ q, (q = s + 4 ∨ q = s + 5 ∨ q = s + 6) → ∀ (x y z t : Nat) (u v w o : Int32), ax_u (ax_u (ax_u (ax_u I r x u) r y v) r z w) r t o q = I q := fun q hq x y z t u v w o => by rw [ax_u_ne (by omega), e5 q hq]
  rcases hb with ⟨rfl, hn3, rfl⟩ | ⟨rfl, hn3, hn4, rfl⟩
  · by_cases cA : ax_vl W c (ax_nx W (c - p) p) < nI 48
    · have R := fun (J : ax_I) (M : ax_L) (nm : Bool) => t_rm (I := J) (L := M) (f := n2 - 97) (e := e) (nm := nm) hs
      refine ⟨?_, ?_, ?_, ?_, ?_, ?_⟩
      · unfold ax_on_p; rw [if_pos cA, if_neg h97, if_neg h105]
      · unfold ax_on_fa; rw [if_pos cA, if_neg h97, if_neg h105]
      · unfold ax_on_nm; rw [if_pos cA, if_neg h97, if_neg h105, lt, (R _ L nm).2, e5 _ (by omega)]
      · unfold ax_on_nf; rw [if_pos cA, if_neg h97, if_neg h105]
      · unfold ax_on_tg; rw [if_pos cA, if_neg h97, if_neg h105]; rfl
      · unfold ax_onI ax_onL
        rw [if_pos cA, if_neg h97, if_neg h105, if_pos cA, if_neg h97, if_neg h105, lt]
        have := (R (ax_u (ax_u (ax_u I r 2 (nI (ax_nx W (c - p) p))) r 2 (nI (ax_nx W (c - (ax_nx W (c - p) p)) (ax_nx W (c - p) p)))) r 2 (nI (ax_nx W (c - (ax_nx W (c - p) p)) (ax_nx W (c - p) p) + 1))) L nm).1
        rw [e5 (s + 4) (by omega), e5 (s + 5) (by omega), e5 (s + 6) (by omega)] at this
        exact this
    · have cB : nI 57 < ax_vl W c (ax_nx W (c - p) p) := k2.mpr (by
        have : ¬ (n < 48 ∨ n = 256) := fun h => cA (k1.mpr h)
        omega)
      have R := fun (J : ax_I) (M : ax_L) (nm : Bool) => t_rm (I := J) (L := M) (f := n2 - 97) (e := e) (nm := nm) hs
      refine ⟨?_, ?_, ?_, ?_, ?_, ?_⟩
      · unfold ax_on_p; rw [if_neg cA, if_pos cB, if_neg h97, if_neg h105]
      · unfold ax_on_fa; rw [if_neg cA, if_pos cB, if_neg h97, if_neg h105]
      · unfold ax_on_nm; rw [if_neg cA, if_pos cB, if_neg h97, if_neg h105, lt, (R _ L nm).2, e5 _ (by omega)]
      · unfold ax_on_nf; rw [if_neg cA, if_pos cB, if_neg h97, if_neg h105]
      · unfold ax_on_tg; rw [if_neg cA, if_pos cB, if_neg h97, if_neg h105]; rfl
      · unfold ax_onI ax_onL
        rw [if_neg cA, if_pos cB, if_neg h97, if_neg h105, if_neg cA, if_pos cB, if_neg h97, if_neg h105, lt]
        have := (R (ax_u (ax_u (ax_u I r 2 (nI (ax_nx W (c - p) p))) r 2 (nI (ax_nx W (c - (ax_nx W (c - p) p)) (ax_nx W (c - p) p)))) r 2 (nI (ax_nx W (c - (ax_nx W (c - p) p)) (ax_nx W (c - p) p) + 1))) L nm).1
        rw [e5 (s + 4) (by omega), e5 (s + 5) (by omega), e5 (s + 6) (by omega)] at this
        exact this
  · have cA : ¬ ax_vl W c (ax_nx W (c - p) p) < nI 48 := fun h => by have := k1.mp h; omega
    have cB : ¬ nI 57 < ax_vl W c (ax_nx W (c - p) p) := fun h => by have := k2.mp h; omega
    have dg := (t_dig n (by omega) hn3).2
    rw [← hv] at dg
    have R := fun (J : ax_I) (M : ax_L) (nm : Bool) => t_rm (I := J) (L := M) (f := n2 - 97) (e := e) (nm := nm) hs
    refine ⟨?_, ?_, ?_, ?_, ?_, ?_⟩
    · unfold ax_on_p; rw [if_neg cA, if_neg cB, if_neg h97, if_neg h105]
    · unfold ax_on_fa; rw [if_neg cA, if_neg cB, if_neg h97, if_neg h105]
    · unfold ax_on_nm; rw [if_neg cA, if_neg cB, if_neg h97, if_neg h105, lt, (R _ L nm).2, e6 _ (by omega)]
    · unfold ax_on_nf; rw [if_neg cA, if_neg cB, if_neg h97, if_neg h105]
    · unfold ax_on_tg; rw [if_neg cA, if_neg cB, if_neg h97, if_neg h105, lt, dg, t_wtg, if_pos rfl]
      congr 1
      congr 1
      refine t_in_cg (fun z hz => ?_)
      rw [t_tml, if_pos hz, (R _ L nm).1.2.2 z hz]
      dsimp only
      rw [e6 (s + 6) (by omega)]
    · unfold ax_onI ax_onL
      rw [if_neg cA, if_neg cB, if_neg h97, if_neg h105, if_neg cA, if_neg cB, if_neg h97, if_neg h105, lt, dg, if_pos rfl]
      have := t_mw (r := r) (v := lN (n - 48)) (by omega) (by omega) (R (ax_u (ax_u (ax_u (ax_u I r 2 (nI (ax_nx W (c - p) p))) r 2 (nI (ax_nx W (c - p) p + 1))) r 2 (nI (ax_nx W (c - (ax_nx W (c - p) p + 1)) (ax_nx W (c - p) p + 1)))) r 2 (nI (ax_nx W (c - (ax_nx W (c - p) p + 1)) (ax_nx W (c - p) p + 1) + 1))) L nm).1
      rw [e6 (s + 4) (by omega), e6 (s + 5) (by omega), e6 (s + 6) (by omega)] at this
      exact this

/-! ===== text: one, in both ===== -/
noncomputable section
def tZ (r c s : Nat) (W : Nat → Int32) (e : Nat) : ax_ZS → ax_ZS := ax_zs r c s W (4 - e) e
def tO (r c s : Nat) (W : Nat → Int32) (e : Nat) : ax_ZS → ax_ZS := ax_oneF r c s e W (if e < 4 then tZ r c s W (e + 1) else id)
def tC (r c s : Nat) (W : Nat → Int32) (e : Nat) : ax_ZS → ax_ZS := ax_chnF r c s e W (tO r c s W e)
end
theorem tZ_eq {r c s e : Nat} {W : Nat → Int32} (he : e ≤ 4) : tZ r c s W e = ax_sumF r c s e W (tC r c s W e) := by
  unfold tZ tC tO
  by_cases h : e < 4
  · rw [if_pos h]
    unfold tZ
    rw [show 4 - e = (4 - (e + 1)) + 1 by omega]; rfl
  · rw [if_neg h, show e = 4 by omega]; rfl
theorem tf_oneF {r c s e q : Nat} {W : Nat → Int32} {sub : ax_ZS → ax_ZS} (he : e ≤ 4) (h : tf r (11 + 9 * e) q) (hs : ∀ S, (sub S).2.2.2.2.2.1 q = S.2.2.2.2.2.1 q ∧ (sub S).2.2.2.2.2.2 q = S.2.2.2.2.2.2 q) : ∀ S, (ax_oneF r c s e W sub S).2.2.2.2.2.1 q = S.2.2.2.2.2.1 q ∧ (ax_oneF r c s e W sub S).2.2.2.2.2.2 q = S.2.2.2.2.2.2 q :=
  fun S => ⟨tf_onI he h (fun S => (hs S).1), tf_onL he h (fun S => (hs S).2)⟩
theorem tf_zs {r c s : Nat} {W : Nat → Int32} : ∀ (k e : Nat), e + k = 4 → ∀ q, tf r (5 + 9 * e) q → ∀ S, (ax_zs r c s W k e S).2.2.2.2.2.1 q = S.2.2.2.2.2.1 q ∧ (ax_zs r c s W k e S).2.2.2.2.2.2 q = S.2.2.2.2.2.2 q
  | 0, e, he, q, h, S => tf_suI (by omega) h (fun S => tf_chI (by omega) (by unfold tf at *; omega) (fun S => tf_oneF (by omega) (by unfold tf at *; omega) (fun S => ⟨rfl, rfl⟩) S))
  | k + 1, e, he, q, h, S => tf_suI (by omega) h (fun S => tf_chI (by omega) (by unfold tf at *; omega) (fun S => tf_oneF (by omega) (by unfold tf at *; omega) (fun S => tf_zs k (e + 1) (by omega) q (by unfold tf at *; omega) S) S))
theorem tf_tZ {r c s e q : Nat} {W : Nat → Int32} (he : e ≤ 4) (h : tf r (5 + 9 * e) q) : ∀ S, (tZ r c s W e S).2.2.2.2.2.1 q = S.2.2.2.2.2.1 q ∧ (tZ r c s W e S).2.2.2.2.2.2 q = S.2.2.2.2.2.2 q := fun S => tf_zs _ e (by omega) q h S
theorem tf_tO {r c s e q : Nat} {W : Nat → Int32} (he : e ≤ 4) (h : tf r (11 + 9 * e) q) : ∀ S, (tO r c s W e S).2.2.2.2.2.1 q = S.2.2.2.2.2.1 q ∧ (tO r c s W e S).2.2.2.2.2.2 q = S.2.2.2.2.2.2 q := tf_oneF he h (fun S => by
  by_cases c : e < 4
  · rw [if_pos c]; exact tf_tZ (by omega) (by unfold tf at *; omega) S
  · rw [if_neg c]; exact ⟨rfl, rfl⟩)
theorem tf_tC {r c s e q : Nat} {W : Nat → Int32} (he : e ≤ 4) (h : tf r (8 + 9 * e) q) : ∀ S, (tC r c s W e S).2.2.2.2.2.1 q = S.2.2.2.2.2.1 q ∧ (tC r c s W e S).2.2.2.2.2.2 q = S.2.2.2.2.2.2 q := fun S => tf_chI he h (fun S => tf_tO he (by unfold tf at *; omega) S)
/-- flags alike -/
def tfl (S : ax_ZS) (M : tM) : Prop := S.2.2.1 = M.2.2.1 ∧ S.2.2.2.1 = M.2.2.2.1 ∧ S.2.2.2.2.1 = M.2.2.2.2
/-- a code that is right at its depth -/
def t_ok (F T : Nat → Int32) (B : Nat → Nat → Int64) (cd : Nat → Int32) (i : Nat) : Prop := ∃ x, cd i = nI x ∧ x ≤ 43 ∧ (t_run F T B cd i).1 ≤ 60 ∧ ((x < 8 ∧ (t_run F T B cd i).1 < 60) ∨ (20 ≤ x ∧ x < 40 ∧ 1 ≤ (t_run F T B cd i).1) ∨ (40 ≤ x ∧ x < 43 ∧ 2 ≤ (t_run F T B cd i).1) ∨ (x = 43 ∧ 1 ≤ (t_run F T B cd i).1))
def tP (F T : Nat → Int32) (B : Nat → Nat → Int64) (k : Nat) (cd : Nat → Int32) (k' : Nat) (cd' : Nat → Int32) : Prop := k ≤ k' ∧ (∀ i, i < k → cd' i = cd i) ∧ ∀ i, k ≤ i → i < k' → t_ok F T B cd' i
theorem t_ok.cg {F T : Nat → Int32} {B : Nat → Nat → Int64} {cd cd' : Nat → Int32} {i : Nat} (h : t_ok F T B cd i) (e : ∀ j, j ≤ i → cd' j = cd j) : t_ok F T B cd' i := by
  obtain ⟨x, h1, h2⟩ := h
  refine ⟨x, by rw [e i (Nat.le_refl _)]; exact h1, ?_⟩
  rw [t_run_cg i (fun j hj => e j (by omega))]; exact h2
theorem tP.trans {F T : Nat → Int32} {B : Nat → Nat → Int64} {k k' k'' : Nat} {cd cd' cd'' : Nat → Int32} (h1 : tP F T B k cd k' cd') (h2 : tP F T B k' cd' k'' cd'') : tP F T B k cd k'' cd'' := by
  obtain ⟨a1, a2, a3⟩ := h1
  obtain ⟨b1, b2, b3⟩ := h2
  refine ⟨by omega, fun i hi => by rw [b2 i (by omega), a2 i hi], fun i h1 h2 => ?_⟩
  by_cases c : i < k'
  · exact (a3 i h1 c).cg (fun j hj => b2 j (by omega))
  · exact b3 i (by omega) h2
/-- a code is laid -/
theorem t_layc {F T : Nat → Int32} {B : Nat → Nat → Int64} {k x : Nat} {cd : Nat → Int32} (hx : x ≤ 43) (h : (t_run F T B cd k).1 ≤ 60 ∧ ((x < 8 ∧ (t_run F T B cd k).1 < 60) ∨ (20 ≤ x ∧ x < 40 ∧ 1 ≤ (t_run F T B cd k).1) ∨ (40 ≤ x ∧ x < 43 ∧ 2 ≤ (t_run F T B cd k).1) ∨ (x = 43 ∧ 1 ≤ (t_run F T B cd k).1))) : tP F T B k cd (k + 1) (ax_cdu cd k (nI x)) ∧ t_run F T B (ax_cdu cd k (nI x)) (k + 1) = t_st F T B x (t_run F T B cd k) := by
  have e1 : ∀ i, i < k → ax_cdu cd k (nI x) i = cd i := fun i hi => if_neg (by omega)
  have e2 : ax_cdu cd k (nI x) k = nI x := if_pos rfl
  have e3 := t_run_cg (F := F) (T := T) (B := B) k e1
  refine ⟨⟨by omega, e1, fun i h1 h2 => ?_⟩, ?_⟩
  · have : i = k := by omega
    subst this
    refine ⟨x, e2, hx, ?_⟩
    rw [e3]; exact h
  · show t_st F T B (ax_cdu cd k (nI x) k).toNatClampNeg (t_run F T B (ax_cdu cd k (nI x)) k) = _
    rw [e2, e3, nI_clamp (by omega)]
/-- the reference behind a number -/
theorem t_1b {W T : Nat → Int32} {c e h1 k n2 : Nat} {cd : Nat → Int32} {sub : ax_TS → Option ax_TS} (hh : h1 ≤ c) (hn2 : n2 < 257) (hv2 : ax_vl T c (ax_nx T (c - h1) h1) = tt n2) :
    (97 ≤ n2 ∧ n2 ≤ 104 → ax_1b T c e sub h1 (k, false, cd) = some (ax_nx T (c - h1) h1 + 1, k + 1, false, ax_cdu cd k (nI (n2 - 97)))) ∧
    (n2 = 40 → e < 4 → ax_1b T c e sub h1 (k, false, cd) = (sub (ax_nx T (c - h1) h1 + 1, k, false, cd)).map fun u => bif u.2.2.1 then u else (ax_tkh T c u.1 u.2.2.1 (nI 41), u.2.1, !ax_tk T c u.1 u.2.2.1 (nI 41), u.2.2.2)) ∧
    (¬ (97 ≤ n2 ∧ n2 ≤ 104) → (n2 = 40 → 4 ≤ e) → ax_1b T c e sub h1 (k, false, cd) = some (ax_nx T (c - h1) h1, k, true, cd)) := by
  have i3 := (t_in3s n2 hn2).2
  rw [← hv2] at i3
  have tk : ax_tk T c (ax_nx T (c - h1) h1) false (nI 40) = decide (n2 = 40) := by
    rw [t_tk, t_n1 T hh, hv2]
    have := (t_eqs n2 hn2 40 (by omega)).2
    by_cases c : n2 = 40
    · rw [decide_eq_true c, decide_eq_true (this.mpr c)]
    · rw [decide_eq_false c, decide_eq_false (fun h => c (this.mp h))]
  have tkh : ax_tkh T c (ax_nx T (c - h1) h1) false (nI 40) = ax_nx T (c - h1) h1 + (bif decide (n2 = 40) then 1 else 0) := by
    unfold ax_tkh; rw [tk, t_n1 T hh]; rfl
  refine ⟨fun h => ?_, fun h he => ?_, fun h h4 => ?_⟩
  · unfold ax_1b
    rw [show ax_1f T c h1 = ax_vl T c (ax_nx T (c - h1) h1) - nI 97 from rfl, i3, decide_eq_true h]
    rw [hv2, (t_let n2 (by omega) h.1).1]
    rfl
  · unfold ax_1b
    rw [show ax_1f T c h1 = ax_vl T c (ax_nx T (c - h1) h1) - nI 97 from rfl, i3, decide_eq_false (by omega), decide_eq_true he]
    show (bif ax_tk T c (ax_nx T (c - h1) h1) false (nI 40) then _ else _) = _
    rw [tk, decide_eq_true h]
    show Option.map _ (sub (ax_tkh T c (ax_nx T (c - h1) h1) false (nI 40), k, false, cd)) = _
    rw [tkh, decide_eq_true h]; rfl
  · unfold ax_1b
    rw [show ax_1f T c h1 = ax_vl T c (ax_nx T (c - h1) h1) - nI 97 from rfl, i3, decide_eq_false h]
    show (bif decide (e < 4) then _ else some (ax_nx T (c - h1) h1, k, true, cd)) = _
    by_cases he : e < 4
    · have n40 : ¬ n2 = 40 := fun z => by have := h4 z; omega
      rw [decide_eq_true he]
      show (bif ax_tk T c (ax_nx T (c - h1) h1) false (nI 40) then _ else some (ax_tkh T c (ax_nx T (c - h1) h1) false (nI 40), k, true, cd)) = _
      rw [tk, decide_eq_false n40, tkh, decide_eq_false n40]; rfl
    · rw [decide_eq_false he]; rfl

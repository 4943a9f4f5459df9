/-! ===== the grid comes to rings ===== -/
/-- what is asked of the numbers on the way -/
def gr_Q (t wd : Nat) (Q : Nat → (Nat → Nat → Int) → Prop) : Prop :=
  (∀ d M, Q d M → d < wd → d < t → gr_O t wd M → ∀ i j, d ≤ i → d ≤ j → mt_ok (M i j)) ∧
  (∀ d M a b, Q d M → d < wd → d < t → d ≤ a → a < t → d ≤ b → b < wd → Q d (fun i j => M (gr_s d a i) (gr_s d b j))) ∧
  ∀ d M, Q d M → d < wd → d < t → gr_O t wd M → M d d ≠ 0 → (∀ i j, d ≤ i → d ≤ j → M i j ≠ 0 → (M d d).natAbs ≤ (M i j).natAbs) → (gr_dn d M → Q (d + 1) (gr_cl d M)) ∧ (¬ gr_dn d M → Q d (gr_cl d M))
theorem gr_loop {t wd h r : Nat} {Q : Nat → (Nat → Nat → Int) → Prop} (hw : wd ≤ 3) (hr : r ≠ h) (hQ : gr_Q t wd Q) : ∀ (fu d p : Nat) (M : Nat → Nat → Int) (L : ax_L), Q d M → gr_O t wd M → gr_Z d M → gr_at L h t wd M → (∀ k, d ≤ k → k < wd → L r k = 0) → d ≤ wd → 0 < p → p ≤ 9223372036854775808 → ((∃ i j, d ≤ i ∧ d ≤ j ∧ M i j ≠ 0) → ∃ i j, d ≤ i ∧ d ≤ j ∧ M i j ≠ 0 ∧ (M i j).natAbs < p) → (wd - d) * 9223372036854775808 + p < fu →
    ∃ L' N, ax_rg h r t wd fu d L = some L' ∧ (∀ q, q ≠ h → q ≠ r → L' q = L q) ∧ gr_D M N ∧ (∀ i j, i ≠ j → N i j = 0) ∧ gr_O t wd N ∧ (∀ k, k < d → L' r k = L r k ∧ N k k = M k k) ∧ ∀ k, d ≤ k → k < wd → L' r k = Int64.ofInt ((N k k).natAbs : Int) ∧ mt_ok (N k k) := by
  intro fu
  induction fu with
  | zero => intro d p M L _ _ _ _ _ _ _ _ _ h; omega
  | succ fu ih =>
    intro d p M L q hO hZ hat hL hd hp0 hp1 hp hf
    have e : ax_rg h r t wd (fu + 1) d L = if d < wd ∧ d < t then (bif (ax_br0 h d t wd L).1 then (bif (ax_cls h d t wd (ax_br0 h d t wd L).2).1 then ax_rg h r t wd fu (d + 1) (ax_u (ax_cls h d t wd (ax_br0 h d t wd L).2).2 r d (ax_abs ((ax_cls h d t wd (ax_br0 h d t wd L).2).2 h (4 * d)))) else ax_rg h r t wd fu d (ax_cls h d t wd (ax_br0 h d t wd L).2).2) else some (ax_br0 h d t wd L).2) else some L := rfl
    have done : (∀ i j, d ≤ i → d ≤ j → M i j = 0) → ∃ L' N, some L = some L' ∧ (∀ q, q ≠ h → q ≠ r → L' q = L q) ∧ gr_D M N ∧ (∀ i j, i ≠ j → N i j = 0) ∧ gr_O t wd N ∧ (∀ k, k < d → L' r k = L r k ∧ N k k = M k k) ∧ ∀ k, d ≤ k → k < wd → L' r k = Int64.ofInt ((N k k).natAbs : Int) ∧ mt_ok (N k k) := fun hz =>
      ⟨L, M, rfl, fun _ _ _ => rfl, gr_D.refl M, fun i j hne => by
        by_cases c : i < d ∨ j < d
        · exact hZ i j c hne
        · exact hz i j (by omega) (by omega), hO, fun k hk => ⟨rfl, rfl⟩, fun k h1 h2 => ⟨by rw [hL k h1 h2, hz k k h1 h1]; rfl, by rw [hz k k h1 h1]; exact mt_ok0⟩⟩
    by_cases c : d < wd ∧ d < t
    case neg => rw [e, if_neg c]; exact done (fun i j hi hj => hO i j (by omega))
    rw [if_pos c] at e
    have hE := hQ.1 d M q c.1 c.2 hO
    have b0 : ax_br0 h d t wd L = match ax_gb (L h) d wd (3 * t) with
      | none => (false, L)
      | some q => (true, ax_xc h d (q % 3) t (ax_xr h d (q / 3) wd L)) := rfl
    rcases gr_gb (H := L h) (d := d) (t := t) hw hE hat (3 * t) (Nat.le_refl _) with ⟨g1, g2⟩ | ⟨z, g1, z0, z1, z2, z3, z4, z5⟩
    · rw [g1] at b0
      have b1 : ax_br0 h d t wd L = (false, L) := b0
      rw [e, b1]
      exact done (fun i j hi hj => by
        by_cases ho : i < t ∧ j < wd
        · have := g2 (3 * i + j) (by omega) (by omega) (by omega) (by omega)
          rw [show (3 * i + j) / 3 = i by omega, show (3 * i + j) % 3 = j by omega] at this; exact this
        · exact hO i j (by omega))
    · rw [g1] at b0
      have b1 : ax_br0 h d t wd L = (true, ax_xc h d (z % 3) t (ax_xr h d (z / 3) wd L)) := b0
      obtain ⟨r1, r2⟩ := gr_xr (h := h) (a := d) (b := z / 3) (L := L) wd hw
      obtain ⟨x1, x2⟩ := gr_xc (h := h) (a := d) (b := z % 3) (L := ax_xr h d (z / 3) wd L) (by omega) (by omega) t
      have hzt : z / 3 < t := by omega
      have hat1 : gr_at (ax_xc h d (z % 3) t (ax_xr h d (z / 3) wd L)) h t wd (fun i j => M (gr_s d (z / 3) i) (gr_s d (z % 3) j)) := by
        intro i j hi hj
        have hj' := gr_s_in c.1 z3 hj
        rw [x2 i j (by omega), if_pos hi, r2 i _ (by omega), if_pos hj']
        exact hat _ _ (gr_s_in c.2 hzt hi) hj'
      generalize ax_xc h d (z % 3) t (ax_xr h d (z / 3) wd L) = L1 at b1 x1 hat1
      have f1 : ∀ q, q ≠ h → L1 q = L q := fun q hq => (x1 q hq).trans (r1 q hq)
      have q1 := hQ.2.1 d M _ _ q c.1 c.2 z1 hzt z2 z3
      have O1 := gr_sw_O hO c.2 c.1 hzt z3
      have Z1 := gr_sw_Z hZ z1 z2
      have D1 : gr_D M (fun i j => M (gr_s d (z / 3) i) (gr_s d (z % 3) j)) := gr_D.pm (gr_ss d (z / 3)) (gr_ss d (z % 3))
      have e11 : (fun i j => M (gr_s d (z / 3) i) (gr_s d (z % 3) j)) d d = M (z / 3) (z % 3) := by
        show M (gr_s d (z / 3) d) (gr_s d (z % 3) d) = _
        rw [show gr_s d (z / 3) d = z / 3 from if_pos rfl, show gr_s d (z % 3) d = z % 3 from if_pos rfl]
      have hmin : ∀ i j, d ≤ i → d ≤ j → (fun i j => M (gr_s d (z / 3) i) (gr_s d (z % 3) j)) i j ≠ 0 → (M (z / 3) (z % 3)).natAbs ≤ ((fun i j => M (gr_s d (z / 3) i) (gr_s d (z % 3) j)) i j).natAbs := by
        intro i j hi hj hne
        dsimp only at hne ⊢
        have hi' := gr_s_ge (Nat.le_refl d) z1 hi
        have hj' := gr_s_ge (Nat.le_refl d) z2 hj
        generalize gr_s d (z / 3) i = i1 at *
        generalize gr_s d (z % 3) j = j1 at *
        by_cases ho : i1 < t ∧ j1 < wd
        · have := z5 (3 * i1 + j1) (by omega) (by omega) (by omega) (by omega)
          rw [show (3 * i1 + j1) / 3 = i1 by omega, show (3 * i1 + j1) % 3 = j1 by omega] at this; exact this hne
        · exact absurd (hO i1 j1 (by omega)) hne
      have hlow : ∀ k, k < d → (fun i j => M (gr_s d (z / 3) i) (gr_s d (z % 3) j)) k k = M k k := fun k hk => by
        dsimp only
        rw [gr_s_lt (Nat.le_refl d) z1 hk, gr_s_lt (Nat.le_refl d) z2 hk]
      have hpz : (M (z / 3) (z % 3)).natAbs < p := by
        obtain ⟨i, j, hi, hj, hne, hlt⟩ := hp ⟨z / 3, z % 3, z1, z2, z4⟩
        by_cases ho : i < t ∧ j < wd
        · have := z5 (3 * i + j) (by omega) (by omega) (by omega) (by omega)
          rw [show (3 * i + j) / 3 = i by omega, show (3 * i + j) % 3 = j by omega] at this
          have := this hne; omega
        · exact absurd (hO i j (by omega)) hne
      generalize (fun i j => M (gr_s d (z / 3) i) (gr_s d (z % 3) j)) = M1 at *
      rw [← e11] at hmin hpz
      have h0 : M1 d d ≠ 0 := by rw [e11]; exact z4
      have hE1 := hQ.1 d M1 q1 c.1 c.2 O1
      obtain ⟨c1, c2, c3⟩ := gr_cls (h := h) c.1 c.2 hw O1 h0 hE1 hat1
      obtain ⟨k1, k2⟩ := hQ.2.2 d M1 q1 c.1 c.2 O1 h0 hmin
      rw [b1] at e
      have e' : ax_rg h r t wd (fu + 1) d L = bif (ax_cls h d t wd L1).1 then ax_rg h r t wd fu (d + 1) (ax_u (ax_cls h d t wd L1).2 r d (ax_abs ((ax_cls h d t wd L1).2 h (4 * d)))) else ax_rg h r t wd fu d (ax_cls h d t wd L1).2 := e
      generalize ax_cls h d t wd L1 = C at *
      have ev : C.2 h (4 * d) = Int64.ofInt (M1 d d) := by rw [show 4 * d = 3 * d + d by omega, c2 d d c.2 c.1, gr_cl_d]
      have okd := hE1 d d (Nat.le_refl _) (Nat.le_refl _)
      have hpos : 0 < (M1 d d).natAbs := by omega
      cases hb : C.1 with
      | true =>
        have ok := c3.mp hb
        have hmm : (wd - (d + 1)) * 9223372036854775808 + 9223372036854775808 < fu := by
          rw [show wd - d = (wd - (d + 1)) + 1 by omega, Nat.add_mul, Nat.one_mul] at hf
          generalize (wd - (d + 1)) * 9223372036854775808 = A at *
          omega
        rw [hb, ev, mt_abs okd] at e'
        have e2 : ax_rg h r t wd (fu + 1) d L = ax_rg h r t wd fu (d + 1) (ax_u C.2 r d (Int64.ofInt ((M1 d d).natAbs : Int))) := e'
        obtain ⟨L', N, y1, y2, y3, y4, y5, y6, y7⟩ := ih (d + 1) 9223372036854775808 (gr_cl d M1) (ax_u C.2 r d (Int64.ofInt ((M1 d d).natAbs : Int))) (k1 ok) (gr_cl_O O1) (gr_cl_Z1 Z1 ok) (fun i j hi hj => by rw [ax_u_ne hr.symm]; exact c2 i j hi hj) (fun k h1 h2 => by rw [ax_u_nj (by omega), c1 r hr, f1 r hr]; exact hL k (by omega) h2) (by omega) (by omega) (Nat.le_refl _) (fun ⟨i, j, hi, hj, hne⟩ => by
          refine ⟨i, j, hi, hj, hne, ?_⟩
          by_cases cc : d + 1 < wd ∧ d + 1 < t
          · exact hQ.1 (d + 1) _ (k1 ok) cc.1 cc.2 (gr_cl_O O1) i j hi hj
          · exact absurd (gr_cl_O O1 i j (by omega)) hne) hmm
        refine ⟨L', N, e2.trans y1, fun q h1 h2 => ?_, D1.trans (gr_cl_D.trans y3), y4, y5, fun k hk => ?_, fun k h1 h2 => ?_⟩
        · rw [y2 q h1 h2, ax_u_ne h2, c1 q h1, f1 q h1]
        · obtain ⟨w1, w2⟩ := y6 k (by omega)
          exact ⟨by rw [w1, ax_u_nj (by omega), c1 r hr, f1 r hr], by rw [w2, gr_cl_low Z1 (Or.inl hk), hlow k hk]⟩
        · by_cases ek : k = d
          · subst ek
            obtain ⟨w1, w2⟩ := y6 k (by omega)
            rw [gr_cl_d] at w2
            exact ⟨by rw [w1, ax_u_at, w2], by rw [w2]; exact okd⟩
          · exact y7 k (by omega) h2
      | false =>
        have nok : ¬ gr_dn d M1 := fun z => by rw [c3.mpr z] at hb; cases hb
        rw [hb] at e'
        have e2 : ax_rg h r t wd (fu + 1) d L = ax_rg h r t wd fu d C.2 := e'
        obtain ⟨L', N, y1, y2, y3, y4, y5, y6, y7⟩ := ih d (M1 d d).natAbs (gr_cl d M1) C.2 (k2 nok) (gr_cl_O O1) (gr_cl_Z Z1) c2 (fun k h1 h2 => by rw [c1 r hr, f1 r hr]; exact hL k h1 h2) hd hpos (by unfold mt_ok at okd; omega) (fun _ => by
          apply Classical.byContradiction
          intro hno
          refine nok ⟨fun i hi => ?_, fun j hj => ?_⟩
          · apply Classical.byContradiction
            intro hne
            exact hno ⟨i, d, by omega, Nat.le_refl _, by rw [gr_cl_c hi]; exact hne, by rw [gr_cl_c hi]; exact mt_tml h0⟩
          · apply Classical.byContradiction
            intro hne
            exact hno ⟨d, j, Nat.le_refl _, by omega, by rw [gr_cl_r hj]; exact hne, by rw [gr_cl_r hj]; exact mt_tml h0⟩) (by omega)
        refine ⟨L', N, e2.trans y1, fun q h1 h2 => ?_, D1.trans (gr_cl_D.trans y3), y4, y5, fun k hk => ?_, y7⟩
        · rw [y2 q h1 h2, c1 q h1, f1 q h1]
        · obtain ⟨w1, w2⟩ := y6 k hk
          exact ⟨by rw [w1, c1 r hr, f1 r hr], by rw [w2, gr_cl_low Z1 (Or.inl hk), hlow k hk]⟩

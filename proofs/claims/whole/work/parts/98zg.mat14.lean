/-! ===== a row comes to a Lattice ===== -/
def mt_set (B : Nat → Nat → Int) (i : Nat) (R : Nat → Int) : Nat → Nat → Int := fun k => if k = i then R else B k
theorem mt_set_i {B : Nat → Nat → Int} {i : Nat} {R : Nat → Int} : mt_set B i R i = R := if_pos rfl
theorem mt_set_n {B : Nat → Nat → Int} {i k : Nat} {R : Nat → Int} (h : k ≠ i) : mt_set B i R k = B k := if_neg h
/-- rows that lead (not yet reduced) and a row that comes, with nothing ahead of i -/
def mt_L0 (w : Nat) (B : Nat → Nat → Int) : Prop := mt_ec w B ∧ (∀ k, k < w → 0 ≤ B k k) ∧ ∀ k j, k < w → w ≤ j → B k j = 0
def mt_v0 (w i : Nat) (v : Nat → Int) : Prop := (∀ j, j < i → v j = 0) ∧ ∀ j, w ≤ j → v j = 0
def mt_cr (L : ax_L) (a w : Nat) (B : Nat → Nat → Int) : Prop := ∀ k j, k < w → j < w → L (a + 2 + k) j = Int64.ofInt (B k j)
/-- what is asked of the numbers when all rows are reduced from the last on -/
def mt_Pd (w : Nat) (T : Nat → Nat → Int) : Prop := (∀ k, k < w → mt_ok (T k k)) ∧ ∀ n m, n < w → m < n → T (w - 1 - n + 1 + m) (w - 1 - n + 1 + m) ≠ 0 → mt_ok (mt_rd (mt_bk w T n) (w - 1 - n) m (T (w - 1 - n)) (w - 1 - n + 1 + m))
/-- what is asked of the numbers while a row comes -/
def mt_J (Q : Nat → (Nat → Nat → Int) → (Nat → Int) → Prop) (w : Nat) : Prop :=
  (∀ i B v, i < w → mt_L0 w B → mt_v0 w i v → Q i B v → (∀ k, k < w → mt_ok (B k k)) ∧ (∀ m, m < w - i → B (i + m) (i + m) ≠ 0 → mt_ok (mt_rf B i m v (i + m))) ∧ mt_ok (mt_rf B i (w - i) v i) ∧
    (mt_rf B i (w - i) v i = 0 → Q (i + 1) B (mt_rf B i (w - i) v)) ∧
    (mt_rf B i (w - i) v i ≠ 0 → B i i = 0 → mt_Pd w (mt_set B i (fun j => (if mt_rf B i (w - i) v i < 0 then -1 else 1) * mt_rf B i (w - i) v j))) ∧
    (mt_rf B i (w - i) v i ≠ 0 → B i i ≠ 0 → Q (i + 1) (mt_set B i (mt_eu i 200 (B i, mt_rf B i (w - i) v)).1) (mt_eu i 200 (B i, mt_rf B i (w - i) v)).2)) ∧
  ∀ B v, mt_L0 w B → Q w B v → mt_Pd w B
theorem mt_stl {a i : Nat} {s : Int64} {L : ax_L} (hi : i < 6) : ∀ n x z, ax_stl a i s L n x z = if x = a + 2 + i ∧ i ≤ z ∧ z < i + n then s * L (a + 8) z else L x z := by
  intro n
  induction n with
  | zero => intro x z; rw [if_neg (by omega)]; rfl
  | succ n ih =>
    intro x z
    have e1 : ax_stl a i s L n (a + 8) (i + n) = L (a + 8) (i + n) := by rw [ih, if_neg (by omega)]
    show ax_u (ax_stl a i s L n) (a + 2 + i) (i + n) (s * ax_stl a i s L n (a + 8) (i + n)) x z = _
    rw [e1]
    by_cases hx : x = a + 2 + i
    · subst hx
      by_cases hz : z = i + n
      · subst hz; rw [ax_u_at, if_pos ⟨rfl, by omega, by omega⟩]
      · rw [ax_u_nj hz, ih]
        by_cases hz2 : i ≤ z ∧ z < i + n
        · rw [if_pos ⟨rfl, hz2⟩, if_pos ⟨rfl, hz2.1, by omega⟩]
        · rw [if_neg (fun y => hz2 y.2), if_neg (fun y => hz2 ⟨y.2.1, by omega⟩)]
    · rw [ax_u_ne hx, ih, if_neg (fun y => hx y.1), if_neg (fun y => hx y.1)]
theorem mt_ins {Q : Nat → (Nat → Nat → Int) → (Nat → Int) → Prop} {a w : Nat} (hw : w ≤ 6) (hJ : mt_J Q w) : ∀ (n i : Nat) (B : Nat → Nat → Int) (v : Nat → Int) (L : ax_L), i + n = w → mt_L0 w B → mt_v0 w i v → Q i B v → mt_cr L a w B → (∀ j, j < w → L (a + 8) j = Int64.ofInt (v j)) →
    ∃ C, mt_L0 w C ∧ mt_Pd w C ∧ mt_cr (ax_ins a w n i L) a w C ∧ (∀ N X, ((∀ k, k < w → mt_sp N X (B k)) ∧ mt_sp N X v) ↔ ∀ k, k < w → mt_sp N X (C k)) ∧ (∀ x, (x < a + 2 ∨ a + 8 < x ∨ (a + 2 + w ≤ x ∧ x < a + 8)) → ax_ins a w n i L x = L x) ∧ ∀ k z, k < w → w ≤ z → ax_ins a w n i L (a + 2 + k) z = L (a + 2 + k) z := by
  intro n
  induction n with
  | zero =>
    intro i B v L hi hB hv hQ hr hc
    have ei : i = w := by omega
    subst ei
    refine ⟨B, hB, hJ.2 B v hB hQ, hr, fun N X => ⟨fun h => h.1, fun h => ⟨h, mt_sp.zero.cg (fun j => ?_)⟩⟩, fun _ _ => rfl, fun _ _ _ _ => rfl⟩
    by_cases hj : j < i
    · exact hv.1 j hj
    · exact hv.2 j (by omega)
  | succ n ih =>
    intro i B v L hi hB hv hQ hr hc
    have hiw : i < w := by omega
    obtain ⟨q1, q2, q3, q4, q5, q6⟩ := hJ.1 i B v hiw hB hv hQ
    obtain ⟨⟨hB1, hB2⟩, hB3, hB4⟩ := id hB
    obtain ⟨r1, r2, r3⟩ := mt_rfo (a := a) (q := a + 8) (f := i) (L := L) (v := v) hB1 hB3 q1 (w - i) (by omega) (fun k h1 h2 => ⟨by omega, fun j hj => hr k j (by omega) hj⟩) hc q2
    have vlo : ∀ j, j < i → mt_rf B i (w - i) v j = 0 := fun j hj => by rw [mt_rf.lo hB1 (w - i) (by omega) j hj]; exact hv.1 j hj
    have vhi : ∀ j, w ≤ j → mt_rf B i (w - i) v j = 0 := mt_rf.w hB4 hv.2 (w - i) (by omega)
    have vsp : ∀ N X, (∀ k, k < w → mt_sp N X (B k)) → (mt_sp N X v ↔ mt_sp N X (mt_rf B i (w - i) v)) := fun N X h => mt_rf.sp (w - i) (fun k h1 h2 => h k (by omega))
    have vin : B i i ≠ 0 → 0 ≤ mt_rf B i (w - i) v i ∧ mt_rf B i (w - i) v i < B i i := fun h => mt_rf.in hB1 hB3 (w - i) (by omega) i (Nat.le_refl _) (by omega) h
    have e : ax_ins a w (n + 1) i L = if ax_rfo a (a + 8) w i (w - i) L (a + 8) i = 0 then ax_ins a w n (i + 1) (ax_rfo a (a + 8) w i (w - i) L)
      else if ax_rfo a (a + 8) w i (w - i) L (a + 2 + i) i = 0 then ax_stl a i (if ax_rfo a (a + 8) w i (w - i) L (a + 8) i < 0 then -1 else 1) (ax_rfo a (a + 8) w i (w - i) L) (w - i)
      else ax_ins a w n (i + 1) (ax_mto a i w 200 (ax_rfo a (a + 8) w i (w - i) L)) := rfl
    have hr1 : mt_cr (ax_rfo a (a + 8) w i (w - i) L) a w B := fun k j hk hj => by rw [r1 _ (by omega)]; exact hr k j hk hj
    have e8 := r2 i hiw
    have e2 := hr1 i i hiw hiw
    generalize hL1 : ax_rfo a (a + 8) w i (w - i) L = L1 at *
    generalize hu : mt_rf B i (w - i) v = u at *
    rw [e8, e2] at e
    by_cases c1 : u i = 0
    · rw [if_pos ((mt_eq0 q3).mpr c1)] at e
      rw [e]
      obtain ⟨C, C1, C2, C3, C4, C5, C6⟩ := ih (i + 1) B u L1 (by omega) hB ⟨fun j hj => by
        by_cases ej : j = i
        · subst ej; exact c1
        · exact vlo j (by omega), vhi⟩ (q4 c1) hr1 r2
      refine ⟨C, C1, C2, C3, fun N X => ?_, fun x hx => (C5 x hx).trans (r1 x (by omega)), fun k z hk hz => (C6 k z hk hz).trans (by rw [r1 _ (by omega)])⟩
      rw [← C4 N X]
      exact ⟨fun h => ⟨h.1, (vsp N X h.1).mp h.2⟩, fun h => ⟨h.1, (vsp N X h.1).mpr h.2⟩⟩
    · rw [if_neg (fun z => c1 ((mt_eq0 q3).mp z))] at e
      by_cases c2 : B i i = 0
      · rw [if_pos ((mt_eq0 (q1 i hiw)).mpr c2)] at e
        have hs : (if Int64.ofInt (u i) < 0 then (-1 : Int64) else 1) = Int64.ofInt (if u i < 0 then -1 else 1) := mt_sg q3
        rw [hs] at e
        rw [e]
        have zr : ∀ j, B i j = 0 := hB2 i hiw c2
        have sg : ∀ j, (if u i < 0 then (-1 : Int) else 1) * u j = if u i < 0 then -u j else u j := fun j => by split <;> omega
        refine ⟨_, ⟨⟨fun k j hk hj => ?_, fun k hk h0 j => ?_⟩, fun k hk => ?_, fun k j hk hj => ?_⟩, q5 c1 c2, fun k j hk hj => ?_, fun N X => ⟨fun h k hk => ?_, fun h => ?_⟩, fun x hx => ?_, fun k z hk hz => ?_⟩
        · by_cases ek : k = i
          · subst ek; rw [mt_set_i]; rw [vlo j hj, Int.mul_zero]
          · rw [mt_set_n ek]; exact hB1 k j hk hj
        · by_cases ek : k = i
          · subst ek; rw [mt_set_i, sg] at h0; exfalso; split at h0 <;> omega
          · rw [mt_set_n ek] at h0 ⊢; exact hB2 k hk h0 j
        · by_cases ek : k = i
          · subst ek; rw [mt_set_i, sg]; split <;> omega
          · rw [mt_set_n ek]; exact hB3 k hk
        · by_cases ek : k = i
          · subst ek; rw [mt_set_i, vhi j hj, Int.mul_zero]
          · rw [mt_set_n ek]; exact hB4 k j hk hj
        · rw [mt_stl (by omega)]
          by_cases ek : k = i
          · subst ek
            rw [mt_set_i]
            by_cases cj : k ≤ j
            · rw [if_pos ⟨rfl, cj, by omega⟩, r2 j hj, Int64.ofInt_mul]
            · rw [if_neg (by omega), hr1 k j hk hj, zr j, vlo j (by omega), Int.mul_zero]
          · rw [if_neg (by omega), mt_set_n ek]; exact hr1 k j hk hj
        · by_cases ek : k = i
          · subst ek; rw [mt_set_i]; exact ((vsp N X h.1).mp h.2).mul _
          · rw [mt_set_n ek]; exact h.1 k hk
        · have hBk : ∀ k, k < w → mt_sp N X (B k) := fun k hk => by
            by_cases ek : k = i
            · subst ek; exact mt_sp.zero.cg zr
            · have := h k hk; rw [mt_set_n ek] at this; exact this
          refine ⟨hBk, (vsp N X hBk).mpr ?_⟩
          have h1 := h i hiw
          rw [mt_set_i] at h1
          refine (h1.mul (if u i < 0 then -1 else 1)).cg (fun j => ?_)
          split <;> omega
        · rw [show ax_stl a i (Int64.ofInt (if u i < 0 then -1 else 1)) L1 (w - i) x = L1 x from funext fun z => by rw [mt_stl (by omega), if_neg (by omega)]]
          exact r1 x (by omega)
        · rw [mt_stl (by omega), if_neg (by omega), r1 _ (by omega)]
      · rw [if_neg (fun z => c2 ((mt_eq0 (q1 i hiw)).mp z))] at e
        rw [e]
        obtain ⟨v1, v2⟩ := vin c2
        have hpos : 0 < B i i := by have := hB3 i hiw; omega
        obtain ⟨m1, m2, m3⟩ := mt_mto (a := a) hiw hw hpos v1 (by omega) (q1 i hiw) (fun j hj => hB1 i j hiw hj) vlo (fun j hj => hr1 i j hiw hj) r2 200
        have hz := mt_eu.z hpos v1 (by omega) q3
        obtain ⟨-, -, -, -, -, -, -, -, -, -, -, -, -, -, p1, p2, -, -, -, -, -, -⟩ := mt_eu.inv hpos v1 (by omega) 200
        have esp := fun N X => mt_eu.sp (N := N) (X := X) (i := i) (R := B i) (v := u) 200
        have ez := fun j h1 h2 => mt_eu.zero (i := i) (j := j) (R := B i) (v := u) h1 h2 200
        have hQ' := q6 c1 c2
        generalize mt_eu i 200 (B i, u) = s at *
        obtain ⟨C, C1, C2, C3, C4, C5, C6⟩ := ih (i + 1) (mt_set B i s.1) s.2 (ax_mto a i w 200 L1) (by omega) ⟨⟨fun k j hk hj => by
            by_cases ek : k = i
            · subst ek; rw [mt_set_i]; exact (ez j (hB1 k j hk hj) (vlo j hj)).1
            · rw [mt_set_n ek]; exact hB1 k j hk hj, fun k hk h0 j => by
            by_cases ek : k = i
            · subst ek; rw [mt_set_i] at h0; omega
            · rw [mt_set_n ek] at h0 ⊢; exact hB2 k hk h0 j⟩, fun k hk => by
            by_cases ek : k = i
            · subst ek; rw [mt_set_i]; omega
            · rw [mt_set_n ek]; exact hB3 k hk, fun k j hk hj => by
            by_cases ek : k = i
            · subst ek; rw [mt_set_i]; exact (ez j (hB4 k j hk hj) (vhi j hj)).1
            · rw [mt_set_n ek]; exact hB4 k j hk hj⟩ ⟨fun j hj => by
            by_cases ej : j = i
            · subst ej; exact hz
            · exact (ez j (hB1 i j hiw (by omega)) (vlo j (by omega))).2, fun j hj => (ez j (hB4 i j hiw hj) (vhi j hj)).2⟩ hQ' (fun k j hk hj => by
            by_cases ek : k = i
            · subst ek; rw [mt_set_i]; exact (m2 j hj).1
            · rw [mt_set_n ek, m1 _ (by omega) (by omega)]; exact hr1 k j hk hj) (fun j hj => (m2 j hj).2)
        refine ⟨C, C1, C2, C3, fun N X => ?_, fun x hx => (C5 x hx).trans ((m1 x (by omega) (by omega)).trans (r1 x (by omega))), fun k z hk hzz => (C6 k z hk hzz).trans ?_⟩
        · rw [← C4 N X]
          refine ⟨fun h => ?_, fun h => ?_⟩
          · have h2 := (esp N X).mp ⟨h.1 i hiw, (vsp N X h.1).mp h.2⟩
            refine ⟨fun k hk => ?_, h2.2⟩
            by_cases ek : k = i
            · subst ek; rw [mt_set_i]; exact h2.1
            · rw [mt_set_n ek]; exact h.1 k hk
          · have h1 := h.1 i hiw
            rw [mt_set_i] at h1
            have h2 := (esp N X).mpr ⟨h1, h.2⟩
            have hBk : ∀ k, k < w → mt_sp N X (B k) := fun k hk => by
              by_cases ek : k = i
              · subst ek; exact h2.1
              · have := h.1 k hk; rw [mt_set_n ek] at this; exact this
            exact ⟨hBk, (vsp N X hBk).mpr h2.2⟩
        · by_cases ek : k = i
          · subst ek; rw [m3 z hzz, r1 _ (by omega)]
          · rw [m1 _ (by omega) (by omega), r1 _ (by omega)]
theorem mt_rd_rf (B : Nat → Nat → Int) (p : Nat) (v : Nat → Int) : ∀ n, mt_rd B p n v = mt_rf B (p + 1) n v := by
  intro n
  induction n with
  | zero => rfl
  | succ n ih => funext j; show (if _ then _ else _) = (if _ then _ else _); rw [ih]
theorem mt_dnr {a w : Nat} {T : Nat → Nat → Int} (hw : w ≤ 6) (hT : mt_L0 w T) (hP : mt_Pd w T) : ∀ (n : Nat) (L : ax_L), n ≤ w → mt_cr L a w (mt_bk w T (w - n)) → mt_cr (ax_dnr a w n L) a w (mt_bk w T w) ∧ (∀ x, (x < a + 2 ∨ a + 2 + w ≤ x) → ax_dnr a w n L x = L x) ∧ ∀ k z, k < w → w ≤ z → ax_dnr a w n L (a + 2 + k) z = L (a + 2 + k) z := by
  intro n
  induction n with
  | zero => intro L _ h; exact ⟨h, fun _ _ => rfl, fun _ _ _ _ => rfl⟩
  | succ n ih =>
    intro L hn hL
    obtain ⟨hT1, hT2, hT3⟩ := hT
    obtain ⟨a1, a2, a3, a4, a5, -, -⟩ := mt_bk.all hT1 hT2 hT3 (w - (n + 1)) (by omega)
    have em : w - 1 - (w - (n + 1)) = n := by omega
    have ld : ∀ k, k < w → mt_bk w T (w - (n + 1)) k k = T k k := fun k hk => a1 k k hk (Nat.le_refl _)
    have ep : mt_bk w T (w - (n + 1)) n = T n := a5 n (by omega)
    obtain ⟨r1, r2, r3⟩ := mt_rfo (a := a) (q := a + 2 + n) (f := n + 1) (w := w) (L := L) (B := mt_bk w T (w - (n + 1))) (v := mt_bk w T (w - (n + 1)) n) (fun k j hk hj => by rw [a1 k j hk (by omega)]; exact hT1.1 k j hk hj) (fun k hk => by rw [ld k hk]; exact hT2 k hk) (fun k hk => by rw [ld k hk]; exact hP.1 k hk) (w - (n + 1)) (by omega) (fun k h1 h2 => ⟨by omega, fun j hj => hL k j (by omega) hj⟩) (fun j hj => hL n j (by omega) hj) (fun m hm hne => by
      have h1 := hP.2 (w - (n + 1)) m (by omega) hm
      rw [em] at h1
      rw [ld _ (by omega)] at hne
      have h2 := h1 hne
      rw [mt_rd_rf, ← ep] at h2
      exact h2)
    have e : ax_dnr a w (n + 1) L = ax_dnr a w n (ax_rfo a (a + 2 + n) w (n + 1) (w - (n + 1)) L) := rfl
    have hb : mt_bk w T (w - n) = fun k => if k = n then mt_rf (mt_bk w T (w - (n + 1))) (n + 1) (w - (n + 1)) (mt_bk w T (w - (n + 1)) n) else mt_bk w T (w - (n + 1)) k := by
      rw [show w - n = (w - (n + 1)) + 1 by omega]
      funext k
      show (if k = w - 1 - (w - (n + 1)) then _ else _) = _
      rw [em, mt_rd_rf]
    obtain ⟨i1, i2, i3⟩ := ih (ax_rfo a (a + 2 + n) w (n + 1) (w - (n + 1)) L) (by omega) (fun k j hk hj => by
      rw [hb]
      dsimp only
      by_cases ek : k = n
      · subst ek; rw [if_pos rfl]; exact r2 j hj
      · rw [if_neg ek, r1 _ (by omega)]; exact hL k j hk hj)
    rw [e]
    refine ⟨i1, fun x hx => (i2 x hx).trans (r1 x (by omega)), fun k z hk hz => (i3 k z hk hz).trans ?_⟩
    by_cases ek : k = n
    · subst ek; exact r3 z hz
    · rw [r1 _ (by omega)]

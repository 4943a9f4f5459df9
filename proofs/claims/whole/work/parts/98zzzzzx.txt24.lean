/-! ===== text: the parse, in both ===== -/
theorem t_par {I : ax_I} {L : ax_L} {t : Nat} (hT : tT (I 312) (I 657) t) (ht : t ≤ 100) : ∃ N u, ax_tx (I 657) t N 3 0 (0, 0, false, I 658) = some u ∧ u.1 ≤ t ∧ (tZs I L t (I 312)).1 = u.1 ∧ (tZs I L t (I 312)).2.1 = u.2.2.1 ∧ tW (I 657) t u ∧ (u.2.2.1 = false → (∀ i, i < u.2.1 → t_ok (I 5) (I 6) (fun f z => (I 7 (9 * f + z)).toInt64) u.2.2.2 i) ∧ (t_run (I 5) (I 6) (fun f z => (I 7 (9 * f + z)).toInt64) u.2.2.2 u.2.1).1 = 1 ∧ tfl (tZs I L t (I 312)) (t_run (I 5) (I 6) (fun f z => (I 7 (9 * f + z)).toInt64) u.2.2.2 u.2.1) ∧ tc (tZs I L t (I 312)).2.2.2.2.2.1 (tZs I L t (I 312)).2.2.2.2.2.2 316 317 ((t_run (I 5) (I 6) (fun f z => (I 7 (9 * f + z)).toInt64) u.2.2.2 u.2.1).2.1 0)) := by
  obtain ⟨u, hu⟩ := (t_ex hT (8 * t + 3)).2.2.2.1 0 (by omega) 0 0 (I 658) (by omega) (by omega)
  have g := ax_tx_gr (s := (0, 0, false, I 658)) (show (0 : Nat) ≤ t by omega) hu
  have w := (t_wrg hT (8 * t + 3)).2.2.2.1 0 (by omega) 0 0 (I 658) u (by omega) hu
  have q := (t_all (r := 311) (s := 1) (F := I 5) (T' := I 6) (B := fun f z => (I 7 (9 * f + z)).toInt64) (by omega) ht hT (8 * t + 3)).2.2.2.1 0 (by omega) 0 0 (I 658) u (0, false, false, false, false, tI5 I, L) (by omega) hu rfl rfl ⟨by show tI5 I 5 = _; unfold tI5; rw [ax_u_ne (by omega), ax_u_ne (by omega), ax_u_ne (by omega), ax_u_ne (by omega), ax_u_ne (by omega)], by show tI5 I 6 = _; unfold tI5; rw [ax_u_ne (by omega), ax_u_ne (by omega), ax_u_ne (by omega), ax_u_ne (by omega), ax_u_ne (by omega)], fun f z => by show (tI5 I 7 _).toInt64 = _; unfold tI5; rw [ax_u_ne (by omega), ax_u_ne (by omega), ax_u_ne (by omega), ax_u_ne (by omega), ax_u_ne (by omega)]⟩ ⟨rfl, rfl, rfl⟩ (Nat.le_refl _)
  have e : tZ 311 t 1 (I 312) 0 (0, false, false, false, false, tI5 I, L) = tZs I L t (I 312) := rfl
  rw [e] at q
  obtain ⟨q1, q2, q3⟩ := q
  refine ⟨_, u, hu, g.2.1, q1, q2, w, fun h => ?_⟩
  obtain ⟨p1, p2, -, p4, p5⟩ := q3 h
  exact ⟨fun i hi => p1.2.2 i (Nat.zero_le _) hi, p2, p4, p5⟩
/-- what the class answers -/
theorem t_rv {I : ax_I} {L : ax_L} {t N : Nat} {u : ax_TS} (hT : tT (I 312) (I 657) t) (hu : u.1 ≤ t) (q1 : (tZs I L t (I 312)).1 = u.1) (q2 : (tZs I L t (I 312)).2.1 = u.2.2.1) (w : tW (I 657) t u) :
    ax_nx (I 657) (t - u.1) u.1 ≤ t ∧ ((u.2.2.1 = true ∨ ¬ (ax_vl (I 657) t (ax_nx (I 657) (t - u.1) u.1) = -1 ∧ ax_nx (I 657) (t - u.1) u.1 = t)) → ax_rev I L 311 t 1 (I 312) = (-100) - nI (ax_nx (I 657) (t - u.1) u.1)) ∧
    (u.2.2.1 = false → ax_nx (I 657) (t - u.1) u.1 = t → ax_rev I L 311 t 1 (I 312) = if (tZs I L t (I 312)).2.2.1 = true then (-300) else (if (tZs I L t (I 312)).2.2.2.1 = true then (-301) else (if (tZs I L t (I 312)).2.2.2.2.1 = true then (-16) else nI 1))) := by
  have le := ax_nx_le (I 657) (t - u.1) u.1
  have nx := t_nx hT (t - u.1) u.1 (by omega)
  obtain ⟨n, hn, v1, v2, v3⟩ := t_v hT (ax_nx (I 657) (t - u.1) u.1)
  have nn := (t_nums n hn).2.2.2.2
  have rv := t_rev (I := I) (L := L) (c := t) (W := I 312)
  rw [q1, q2, nx, v1] at rv
  refine ⟨by omega, fun h => ?_, fun h1 h2 => ?_⟩
  · rw [rv]
    cases hw : u.2.2.1 with
    | true => rw [if_pos rfl, w hw]
    | false =>
      rw [if_neg (by decide)]
      have : ¬ n = 256 := fun z => by
        rcases h with h | h
        · rw [hw] at h; cases h
        · refine h ⟨?_, by have := v3.mp z; omega⟩
          rw [v2, z]; decide
      rw [if_neg (fun z => this (nn.mp z))]
  · rw [rv, h1, if_neg (by decide), if_pos (nn.mpr (v3.mpr (by omega)))]
theorem ax_rin_ne {a q i x : Nat} {v : Int64} {J : ax_L} (h : x ≠ q) : ∀ n, ax_rin a q i v n J x = J x
  | 0 => rfl
  | n + 1 => by
    show ax_u (ax_rin a q i v n J) q _ _ x = _
    rw [ax_u_ne h]; exact ax_rin_ne h n
theorem ax_rfo_ne {a q w f x : Nat} {J : ax_L} (h : x ≠ q) : ∀ n, ax_rfo a q w f n J x = J x
  | 0 => rfl
  | n + 1 => by
    have ih := ax_rfo_ne (a := a) (w := w) (f := f) (J := J) h n
    simp only [ax_rfo]
    split
    · exact ih
    · split
      · exact ih
      · rw [ax_rin_ne h]; exact ih
theorem t_mkn_ne {x y b v q : Nat} {C : ax_L} (h1 : q ≠ x) (h2 : q ≠ y) : ∀ n, ax_mkn x y b v n C q = C q
  | 0 => rfl
  | n + 1 => by
    show ax_cp (ax_rfo b y v 0 (v - 0) (ax_cp (ax_mkn x y b v n C) x y (3 * n) 0 3)) y x 0 (3 * n) 3 q = _
    rw [ax_cp_ne h1, ax_rfo_ne h2, ax_cp_ne h2]; exact t_mkn_ne h1 h2 n
/-- rows that are done stay -/
theorem t_mkn_z {w n z : Nat} {C : ax_L} (hz : z < 3 * n) : ∀ m, ax_mkn 317 318 597 w (n + m) C 317 z = ax_mkn 317 318 597 w n C 317 z
  | 0 => rfl
  | m + 1 => by
    show ax_cp (ax_rfo 597 318 w 0 (w - 0) (ax_cp (ax_mkn 317 318 597 w (n + m) C) 317 318 (3 * (n + m)) 0 3)) 318 317 0 (3 * (n + m)) 3 317 z = _
    rw [ax_cp_eq]; unfold va_cpy
    rw [if_neg (by omega), ax_rfo_ne (by omega), ax_cp_ne (by omega)]; exact t_mkn_z hz m
/-- the row of a map, in the class and in the reference -/
theorem t_tkm {C : ax_L} {a k x : Nat} {J : ax_I} : ∀ n q z, ax_tkm C a k x n J q z = if q = a + 6 ∧ 9 * k ≤ z ∧ z < 9 * k + n then (C x (z - 9 * k)).toInt32 else J q z := by
  intro n
  induction n with
  | zero => intro q z; rw [if_neg (by omega)]; rfl
  | succ n ih =>
    intro q z
    show ax_u (ax_tkm C a k x n J) (a + 6) (9 * k + n) ((C x n).toInt32) q z = _
    by_cases hq : q = a + 6
    · subst hq
      by_cases hz : z = 9 * k + n
      · subst hz
        rw [ax_u_at, if_pos (show a + 6 = a + 6 ∧ 9 * k ≤ 9 * k + n ∧ 9 * k + n < 9 * k + (n + 1) from ⟨rfl, by omega, by omega⟩), show 9 * k + n - 9 * k = n by omega]
      · rw [ax_u_nj hz, ih]
        by_cases c : 9 * k ≤ z ∧ z < 9 * k + n
        · rw [if_pos ⟨rfl, c⟩, if_pos (show a + 6 = a + 6 ∧ 9 * k ≤ z ∧ z < 9 * k + (n + 1) from ⟨rfl, by omega, by omega⟩)]
        · rw [if_neg (fun y => c y.2), if_neg (show ¬ (a + 6 = a + 6 ∧ 9 * k ≤ z ∧ z < 9 * k + (n + 1)) from fun y => by omega)]
    · rw [ax_u_ne hq, ih, if_neg (fun y => hq y.1), if_neg (fun y => hq y.1)]
theorem t_bcl {R : ax_L} {f a : Nat} {gn : Nat → Nat} {J : ax_I} : ∀ n z, ax_bcl R 639 f a gn n J 640 z = if 84 + 11 * f + 2 ≤ z ∧ z < 84 + 11 * f + 2 + n then (if gn a ≤ (z - (84 + 11 * f + 2)) / 3 then nI 0 else (R 661 (z - (84 + 11 * f + 2))).toInt32) else J 640 z := by
  intro n
  induction n with
  | zero => intro z; rw [if_neg (by omega)]; rfl
  | succ n ih =>
    intro z
    have e : ax_bcl R 639 f a gn (n + 1) J = ax_u (ax_bcl R 639 f a gn n J) 640 (84 + 11 * f + 2 + n) (if gn a ≤ n / 3 then nI 0 else (R 661 n).toInt32) := by
      simp only [ax_bcl]
      by_cases c : gn a ≤ n / 3
      · rw [if_pos c, if_pos c]
      · rw [if_neg c, if_neg c]
    rw [e]
    by_cases hz : z = 84 + 11 * f + 2 + n
    · subst hz
      rw [ax_u_at, if_pos (show 84 + 11 * f + 2 ≤ 84 + 11 * f + 2 + n ∧ 84 + 11 * f + 2 + n < 84 + 11 * f + 2 + (n + 1) by omega), show 84 + 11 * f + 2 + n - (84 + 11 * f + 2) = n by omega]
    · rw [ax_u_nj hz, ih]
      by_cases c : 84 + 11 * f + 2 ≤ z ∧ z < 84 + 11 * f + 2 + n
      · rw [if_pos c, if_pos (show 84 + 11 * f + 2 ≤ z ∧ z < 84 + 11 * f + 2 + (n + 1) by omega)]
      · rw [if_neg c, if_neg (show ¬ (84 + 11 * f + 2 ≤ z ∧ z < 84 + 11 * f + 2 + (n + 1)) by omega)]

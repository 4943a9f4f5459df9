/-! ===== text: both read the same: sum ===== -/
theorem t_up_at {s : Nat → tE} {d : Nat} {x : tE} : t_up s d x d = x := if_pos rfl
theorem t_up_ne {s : Nat → tE} {d i : Nat} {x : tE} (h : i ≠ d) : t_up s d x i = s i := if_neg h
theorem t_tcn {I : ax_I} {L : ax_L} {x n : Nat} {a b : Int32} {f : Nat → Int64} {E : tE} {v : Int64} (h : tc I L x n (a, b, fun z => f z * v)) (h1 : a = E.1) (h2 : b = E.2.1) (h3 : ∀ z, z < 9 → f z = E.2.2 z) : tc I L x n (E.1, E.2.1, fun z => E.2.2 z * v) := by
  obtain ⟨g1, g2, g3⟩ := h
  exact ⟨g1.trans h1, g2.trans h2, fun z hz => (g3 z hz).trans (by show f z * v = E.2.2 z * v; rw [h3 z hz])⟩
theorem t_st43 {F T' : Nat → Int32} {B : Nat → Nat → Int64} {M : tM} {D : Nat} (h : M.1 = D + 1) : t_st F T' B 43 M = (D + 1, t_up M.2.1 D ((M.2.1 D).1, (M.2.1 D).2.1, fun z => (M.2.1 D).2.2 z * (-1)), M.2.2.1, M.2.2.2.1, M.2.2.2.2) := by
  unfold t_st t_op
  rw [if_neg (by omega), if_neg (by omega), if_neg (by omega), if_neg (by omega), if_neg (by omega), if_neg (by omega), if_neg (by omega), if_neg (by omega), h, Nat.add_sub_cancel]
theorem t_s3 {r c s : Nat} {W T F T' : Nat → Int32} {B : Nat → Nat → Int64} (hs : s + 14 ≤ r) (hc : c ≤ 100) (hT : tT W T c) {N : Nat} (A1 : tA1 r c s W T F T' B N) (A4 : tA4 r c s W T F T' B N) : tA3 r c s W T F T' B (N + 1) := by
  intro e he h k cd u S hh hx hS hfa hB hfl hd
  obtain ⟨p, fa, nm, nf, tg, I, L⟩ := S
  dsimp only at hS hfa
  subst hS hfa
  rw [tZ_eq he]
  obtain ⟨k1, k2, k3, k4, k5⟩ := t_take (m := 45) hT hh (by omega)
  have hx' : (ax_tx T c N 1 e (ax_tkh T c p false (nI 45), k, false, cd)).bind (fun u => ax_tx T c N 4 e (bif ax_tk T c p false (nI 45) then ax_lay (nI 43) u else u)) = some u := (t_tx3 (s := (p, k, false, cd))).symm.trans hx
  obtain ⟨I2, i1, i2⟩ := t_sum (r := r) (c := c) (s := s) (e := e) (p := p) (W := W) (nm := nm) (nf := nf) (tg := tg) (I := I) (L := L) (chn := tC r c s W e)
  rw [k2, k1] at i2
  cases h0 : ax_tx T c N 1 e (ax_tkh T c p false (nI 45), k, false, cd) with
  | none => rw [h0] at hx'; cases hx'
  | some u1 =>
    rw [h0] at hx'
    have hx2 : ax_tx T c N 4 e (bif ax_tk T c p false (nI 45) then ax_lay (nI 43) u1 else u1) = some u := hx'
    have tbS : tB s F T' B (ax_tkh T c p false (nI 45), false, nm, nf, tg, I2, L) := ⟨(i1 _ (by omega)).trans hB.1, (i1 _ (by omega)).trans hB.2.1, fun f z => by dsimp only; rw [i1 _ (by omega)]; exact hB.2.2 f z⟩
    have Q := A1 e he _ k cd u1 (ax_tkh T c p false (nI 45), false, nm, nf, tg, I2, L) k4 h0 rfl rfl tbS hfl (by omega)
    have gr := ax_tx_gr (s := (ax_tkh T c p false (nI 45), k, false, cd)) k4 h0
    have fr := fun q (hq : tf r (8 + 9 * e) q) => tf_tC (s := s) (W := W) (c := c) he hq (ax_tkh T c p false (nI 45), false, nm, nf, tg, I2, L)
    obtain ⟨S3, j0, j1, j2, j3, j4, j5, j6, j7⟩ := i2 _ rfl
    rw [j0]
    generalize tC r c s W e (ax_tkh T c p false (nI 45), false, nm, nf, tg, I2, L) = S1 at *
    obtain ⟨q1, q2, q3⟩ := Q
    obtain ⟨h1, k1', w1, cd1⟩ := u1
    dsimp only at q1 q2 q3
    have gr1 : h1 ≤ c := gr.2.1
    have gr2 : k1' + ax_tkh T c p false (nI 45) ≤ k + h1 := gr.2.2
    cases w1 with
    | true =>
      have eb : (bif ax_tk T c p false (nI 45) then ax_lay (nI 43) (h1, k1', true, cd1) else (h1, k1', true, cd1)) = (h1, k1', true, cd1) := by
        rw [t_lay1]
        exact Bool.cond_self _ _
      have hx3 : ax_tx T c N 4 e (h1, k1', true, cd1) = some u := by rw [eb] at hx2; exact hx2
      have R := A4 e he h1 k1' true cd1 u S3 100 0 gr1 hx3 (j1.trans q1) (j2.trans q2) (fun hw => by cases hw)
      have ew : u.2.2.1 = true := t_tx4f hx3
      exact ⟨R.1, R.2.1, fun hw => absurd (hw.symm.trans ew) (by decide)⟩
    | false =>
      obtain ⟨q4, q5, q6, q7, q8⟩ := q3 rfl
      have lt := q4.lt q5
      rw [show (t_run F T' B cd k).1 + 1 - 1 = (t_run F T' B cd k).1 by omega] at q8
      have tb3 : tB s F T' B S3 := by
        obtain ⟨b1, b2, b3⟩ := tbS
        refine ⟨?_, ?_, fun f z => ?_⟩
        · rw [j7 _ (by omega), (fr _ (by unfold tf; omega)).1]; exact b1
        · rw [j7 _ (by omega), (fr _ (by unfold tf; omega)).1]; exact b2
        · rw [j7 _ (by omega), (fr _ (by unfold tf; omega)).1]; exact b3 f z
      cases htk : ax_tk T c p false (nI 45) with
      | false =>
        rw [htk] at hx2 j6
        rw [if_neg (by decide)] at j6
        have R := A4 e he h1 k1' false cd1 u S3 100 0 gr1 hx2 (j1.trans q1) (j2.trans q2) (fun _ => ⟨by omega, tb3, ⟨j3.trans q7.1, j4.trans q7.2.1, j5.trans q7.2.2⟩, by omega, by omega, ?_⟩)
        · exact R.comp q4 (by rw [q5]) (fun i hi => q6 i hi)
        · rw [q5, show (t_run F T' B cd k).1 + 1 - 1 = (t_run F T' B cd k).1 by omega]
          exact ⟨j6.1.trans q8.1, j6.2.1.trans q8.2.1, fun z hz => (j6.2.2 z hz).trans (q8.2.2 z hz)⟩
      | true =>
        rw [htk] at hx2 j6
        rw [if_pos rfl] at j6
        have e43 : (bif true then ax_lay (nI 43) (h1, k1', false, cd1) else (h1, k1', false, cd1)) = (h1, k1' + 1, false, ax_cdu cd1 k1' (nI 43)) := rfl
        have hx3 : ax_tx T c N 4 e (h1, k1' + 1, false, ax_cdu cd1 k1' (nI 43)) = some u := by rw [e43] at hx2; exact hx2
        obtain ⟨l1, l2⟩ := t_layc (F := F) (T := T') (B := B) (k := k1') (x := 43) (cd := cd1) (by omega) ⟨by omega, Or.inr (Or.inr (Or.inr ⟨rfl, by omega⟩))⟩
        have st : t_run F T' B (ax_cdu cd1 k1' (nI 43)) (k1' + 1) = ((t_run F T' B cd k).1 + 1, t_up (t_run F T' B cd1 k1').2.1 (t_run F T' B cd k).1 (((t_run F T' B cd1 k1').2.1 (t_run F T' B cd k).1).1, ((t_run F T' B cd1 k1').2.1 (t_run F T' B cd k).1).2.1, fun z => ((t_run F T' B cd1 k1').2.1 (t_run F T' B cd k).1).2.2 z * (-1)), (t_run F T' B cd1 k1').2.2.1, (t_run F T' B cd1 k1').2.2.2.1, (t_run F T' B cd1 k1').2.2.2.2) := l2.trans (t_st43 q5)
        have s1 : (t_run F T' B (ax_cdu cd1 k1' (nI 43)) (k1' + 1)).1 = (t_run F T' B cd k).1 + 1 := congrArg (fun M : tM => M.1) st
        have s2 : (t_run F T' B (ax_cdu cd1 k1' (nI 43)) (k1' + 1)).2.1 = t_up (t_run F T' B cd1 k1').2.1 (t_run F T' B cd k).1 (((t_run F T' B cd1 k1').2.1 (t_run F T' B cd k).1).1, ((t_run F T' B cd1 k1').2.1 (t_run F T' B cd k).1).2.1, fun z => ((t_run F T' B cd1 k1').2.1 (t_run F T' B cd k).1).2.2 z * (-1)) := congrArg (fun M : tM => M.2.1) st
        have s3 : tfl S3 (t_run F T' B (ax_cdu cd1 k1' (nI 43)) (k1' + 1)) := by
          rw [st]; exact ⟨j3.trans q7.1, j4.trans q7.2.1, j5.trans q7.2.2⟩
        clear st
        have s4 : tc S3.2.2.2.2.2.1 S3.2.2.2.2.2.2 (r + (5 + 9 * e)) (r + (6 + 9 * e)) ((t_run F T' B (ax_cdu cd1 k1' (nI 43)) (k1' + 1)).2.1 ((t_run F T' B (ax_cdu cd1 k1' (nI 43)) (k1' + 1)).1 - 1)) := by
          rw [s1, s2, Nat.add_sub_cancel, t_up_at]
          exact t_tcn j6 q8.1 q8.2.1 q8.2.2
        have R := A4 e he h1 (k1' + 1) false (ax_cdu cd1 k1' (nI 43)) u S3 100 0 gr1 hx3 (j1.trans q1) (j2.trans q2) (fun _ => ⟨by omega, tb3, s3, by omega, by omega, s4⟩)
        exact R.comp (q4.trans l1) (by omega) (fun i hi => by rw [s2, t_up_ne (by omega)]; exact q6 i hi)

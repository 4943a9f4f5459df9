/-! ===== do both ways agree: all generators ===== -/
set_option maxRecDepth 20000 in
theorem gw_step {I : ax_I} {S : Nat → Int32} {mp fr tg gn gc : Nat → Nat} {i j p q k : Nat} {a b c : Int64} {Lc Lr : ax_L} (hW : rl_Wg S) (hT : gw_T I S mp fr tg gn) (hsn : ∀ g, g < 6 → S (14 * g) = nI (gn g) ∧ gn g ≤ 3) (hsc : ∀ g, g < 6 → S (14 * g + 1) = nI (gc g) ∧ gc g ≤ 4) (hi : i < 7) (hj : j < 7) (hp : p < 7) (hq : q < 7) (e1 : tg i = fr j) (e2 : tg p = fr q) (e3 : fr i = fr p) (e4 : tg j = tg q) (hk : k < gn (fr i)) (habc : ∀ z, z < 3 → (if z = 0 then a else if z = 1 then b else c) = if z = k then 1 else 0) (hL : mt_lat Lc 373 (mt_N S gn gc (tg j))) :
    ax_sz (ax_rfo 373 479 (gn (tg j)) 0 (gn (tg j)) (gw_C I mp i j p q k Lc) 479) (gn (tg j)) = ax_all0 (gw_R 639 i j p q mp fr tg gn gc S a b c Lr) 664 0 6 ∧ (∀ x, x ≠ 477 → x ≠ 478 → x ≠ 479 → x ≠ 480 → ax_rfo 373 479 (gn (tg j)) 0 (gn (tg j)) (gw_C I mp i j p q k Lc) x = Lc x) ∧ ∀ x, x ≠ 643 → x ≠ 644 → x ≠ 649 → x ≠ 664 → x ≠ 665 → x ≠ 666 → gw_R 639 i j p q mp fr tg gn gc S a b c Lr x = Lr x := by
  obtain ⟨r1, r2, r3, r4⟩ := gw_rows (Lc := Lc) (Lr := Lr) (gc := gc) hT hsn hi hj hp hq e1 e2 e3 e4 hk habc
  have hg := (hT j hj).2.1
  have hv := (hsn _ hg).2
  obtain ⟨t1, t2⟩ := rl_N1t (t := 644) hW hsn hsc hg (by omega) (by omega)
  have eR : gw_R 639 i j p q mp fr tg gn gc S a b c Lr = ax_rs 664 644 0 (gn (tg j)) (ax_N1t 639 (tg j) 644 (gn (tg j)) (gc (tg j)) S (ax_ga6 639 6 (gw_D 639 i j p q mp fr tg gn S a b c Lr))) := rfl
  rw [eR]
  generalize ax_ga6 639 6 (gw_D 639 i j p q mp fr tg gn S a b c Lr) = B0 at *
  generalize gw_C I mp i j p q k Lc = A0 at *
  obtain ⟨t3, t4, t5⟩ := t2 B0
  generalize ax_N1t 639 (tg j) 644 (gn (tg j)) (gc (tg j)) S B0 = B1 at *
  have hz := mx_Nz hW hsn hsc hg
  have h1 : mt_lat A0 373 (mt_N S gn gc (tg j)) := fun k' j' a b => by rw [r3 _ (by omega) (by omega) (by omega) (by omega)]; exact hL k' j' a b
  obtain ⟨a1, a2, a3, a4⟩ := mt_alike (a := 373) (q := 479) (r := 664) (t := 644) (w := gn (tg j)) (L1 := A0) (L2 := B1) (by omega) (by omega) (by omega) h1 t3 t5 0 (gn (tg j)) (by omega) (fun z h8 => by rw [t4 664 (by omega) (by omega) (by omega)]; exact r1 z (by omega))
  have a5 : ∀ z, gn (tg j) ≤ z → z < 6 → ax_rs 664 644 0 (gn (tg j)) B1 664 z = 0 := fun z h3 h4 => by
    rw [mt_rs0 (w := gn (tg j)) (by omega) t3 t5 (by omega) h4 (fun k' _ => hz k' z (Or.inr h3)) (gn (tg j)) (by omega), t4 664 (by omega) (by omega) (by omega)]
    exact r2 z h3 h4
  refine ⟨?_, fun x q1 q2 q3 q4 => (a2 x q3).trans (r3 x q1 q2 q3 q4), fun x q1 q2 q3 q4 q5 q6 => (a3 x q4).trans ((t4 x q1 q2 q3).trans (r4 x q4 q5 q6))⟩
  rw [Bool.eq_iff_iff, gw_all0]
  unfold ax_sz
  rw [decide_eq_true_eq]
  refine ⟨fun h z h8 => ?_, fun h z h8 => (a1 z h8).trans (h z (by omega))⟩
  by_cases c : z < gn (tg j)
  · exact (a1 z c).symm.trans (h z c)
  · exact a5 z (by omega) h8
theorem gw_ind {I : ax_I} {S : Nat → Int32} {mp fr tg gn gc : Nat → Nat} {i j p q : Nat} (hW : rl_Wg S) (hT : gw_T I S mp fr tg gn) (hsn : ∀ g, g < 6 → S (14 * g) = nI (gn g) ∧ gn g ≤ 3) (hsc : ∀ g, g < 6 → S (14 * g + 1) = nI (gc g) ∧ gc g ≤ 4) (hi : i < 7) (hj : j < 7) (hp : p < 7) (hq : q < 7) (e1 : tg i = fr j) (e2 : tg p = fr q) (e3 : fr i = fr p) (e4 : tg j = tg q) :
    ∀ n k Lc Ir Lr, k + n = gn (fr i) → mt_lat Lc 373 (mt_N S gn gc (tg j)) →
      (ax_wak I 361 1 mp tg gn i j p q n k Lc).1 = (ax_gak 639 i j p q mp fr tg gn gc S n k (Ir, Lr)).1 ∧ (∀ x, x ≠ 477 → x ≠ 478 → x ≠ 479 → x ≠ 480 → (ax_wak I 361 1 mp tg gn i j p q n k Lc).2 x = Lc x) ∧ (∀ x, x ≠ 643 → x ≠ 644 → x ≠ 649 → x ≠ 664 → x ≠ 665 → x ≠ 666 → (ax_gak 639 i j p q mp fr tg gn gc S n k (Ir, Lr)).2.2 x = Lr x) ∧ ∀ z, z ≠ 6 → (ax_gak 639 i j p q mp fr tg gn gc S n k (Ir, Lr)).2.1 639 z = Ir 639 z := by
  intro n
  induction n with
  | zero => exact fun k Lc Ir Lr _ _ => ⟨rfl, fun _ _ _ _ _ => rfl, fun _ _ _ _ _ _ _ => rfl, fun _ _ => rfl⟩
  | succ n ih =>
    intro k Lc Ir Lr hkn hL
    have hg : fr i < 6 := (hT i hi).1
    have b3 := (hsn _ hg).2
    have u1 : ax_wak I 361 1 mp tg gn i j p q (n + 1) k Lc = if (ax_sz ((ax_rfo 373 479 (gn (tg j)) 0 (gn (tg j)) (gw_C I mp i j p q k Lc)) 479) (gn (tg j))) = true then ax_wak I 361 1 mp tg gn i j p q n (k + 1) (ax_rfo 373 479 (gn (tg j)) 0 (gn (tg j)) (gw_C I mp i j p q k Lc)) else (false, ax_rfo 373 479 (gn (tg j)) 0 (gn (tg j)) (gw_C I mp i j p q k Lc)) := rfl
    have u2 : ∃ a b c : Int64, (∀ z, z < 3 → (if z = 0 then a else if z = 1 then b else c) = if z = k then 1 else 0) ∧ ax_gak 639 i j p q mp fr tg gn gc S (n + 1) k (Ir, Lr) = if ax_all0 (gw_R 639 i j p q mp fr tg gn gc S a b c Lr) (639 + 25) 0 (6 - 0) = true then ax_gak 639 i j p q mp fr tg gn gc S n (k + 1) (ax_u Ir 639 6 (nI (gc (tg j))), gw_R 639 i j p q mp fr tg gn gc S a b c Lr) else (false, ax_u Ir 639 6 (nI (gc (tg j))), gw_R 639 i j p q mp fr tg gn gc S a b c Lr) := by
      rcases (show k = 0 ∨ k = 1 ∨ k = 2 by omega) with rfl | rfl | rfl
      · refine ⟨1, 0, 0, fun z hz => ?_, gw_k0⟩
        rcases (show z = 0 ∨ z = 1 ∨ z = 2 by omega) with rfl | rfl | rfl <;> rfl
      · refine ⟨0, 1, 0, fun z hz => ?_, gw_k1⟩
        rcases (show z = 0 ∨ z = 1 ∨ z = 2 by omega) with rfl | rfl | rfl <;> rfl
      · refine ⟨0, 0, 1, fun z hz => ?_, gw_k2⟩
        rcases (show z = 0 ∨ z = 1 ∨ z = 2 by omega) with rfl | rfl | rfl <;> rfl
    obtain ⟨a, b, c, habc, u2⟩ := u2
    obtain ⟨s1, s2, s3⟩ := gw_step (Lc := Lc) (Lr := Lr) hW hT hsn hsc hi hj hp hq e1 e2 e3 e4 (k := k) (by omega) habc hL
    have u3 : ax_gak 639 i j p q mp fr tg gn gc S (n + 1) k (Ir, Lr) = if ax_all0 (gw_R 639 i j p q mp fr tg gn gc S a b c Lr) 664 0 6 = true then ax_gak 639 i j p q mp fr tg gn gc S n (k + 1) (ax_u Ir 639 6 (nI (gc (tg j))), gw_R 639 i j p q mp fr tg gn gc S a b c Lr) else (false, ax_u Ir 639 6 (nI (gc (tg j))), gw_R 639 i j p q mp fr tg gn gc S a b c Lr) := u2
    clear u2
    generalize gw_R 639 i j p q mp fr tg gn gc S a b c Lr = R1 at *
    generalize ax_rfo 373 479 (gn (tg j)) 0 (gn (tg j)) (gw_C I mp i j p q k Lc) = C1 at *
    have s4 : ∀ z, z ≠ 6 → ax_u Ir 639 6 (nI (gc (tg j))) 639 z = Ir 639 z := fun z hz => ax_u_nj hz
    generalize ax_u Ir 639 6 (nI (gc (tg j))) = I1 at *
    rw [s1] at u1
    cases hh : ax_all0 R1 664 0 6 with
    | false =>
      rw [hh, if_neg (by decide)] at u1 u3
      rw [u1, u3]
      exact ⟨rfl, s2, s3, s4⟩
    | true =>
      rw [hh, if_pos rfl] at u1 u3
      obtain ⟨i1, i2, i3, i4⟩ := ih (k + 1) C1 I1 R1 (by omega) (fun k' j' a b => by rw [s2 _ (by omega) (by omega) (by omega) (by omega)]; exact hL k' j' a b)
      rw [u1, u3]
      exact ⟨i1, fun x q1 q2 q3 q4 => (i2 x q1 q2 q3 q4).trans (s2 x q1 q2 q3 q4), fun x q1 q2 q3 q4 q5 q6 => (i3 x q1 q2 q3 q4 q5 q6).trans (s3 x q1 q2 q3 q4 q5 q6), fun z hz => (i4 z hz).trans (s4 z hz)⟩
/-- do both ways agree, in both -/
theorem gw_both {I : ax_I} {S : Nat → Int32} {mp fr tg gn gc : Nat → Nat} {i j p q : Nat} {L Lr : ax_L} {Ir : ax_I} (hSt : rl_St 1 I S) (hT : gw_T I S mp fr tg gn) (hsn : ∀ g, g < 6 → S (14 * g) = nI (gn g) ∧ gn g ≤ 3) (hsc : ∀ g, g < 6 → S (14 * g + 1) = nI (gc g) ∧ gc g ≤ 4) (hi : i < 7) (hj : j < 7) (hp : p < 7) (hq : q < 7) (e1 : tg i = fr j) (e2 : tg p = fr q) (e3 : fr i = fr p) (e4 : tg j = tg q) :
    ax_wav I L 361 1 mp fr tg gn gc i j p q = ax_gaRv Ir Lr 639 i j p q mp fr tg gn gc S ∧ (∀ x, (x < 375 ∨ (381 < x ∧ x < 477) ∨ 480 < x) → ax_waL I L 361 1 mp fr tg gn gc i j p q x = L x) ∧ (∀ x, x ≠ 643 → x ≠ 644 → x ≠ 649 → x ≠ 664 → x ≠ 665 → x ≠ 666 → ax_gaRL Ir Lr 639 i j p q mp fr tg gn gc S x = Lr x) ∧ ∀ z, z ≠ 6 → ax_gaRI Ir Lr 639 i j p q mp fr tg gn gc S 639 z = Ir 639 z := by
  have hg := (hT j hj).2.1
  obtain ⟨n1, -, n3⟩ := rl_nth (x := 373) hSt hsn hsc hg (by omega) L
  obtain ⟨a1, a2, a3, a4⟩ := gw_ind (I := ax_u I 373 2 (nI (gn (tg j)))) hSt.2.1 (fun e he => by obtain ⟨h1, h2, h3, h4⟩ := hT e he; exact ⟨h1, h2, fun z hz => by rw [ax_u_ne (by omega)]; exact h3 z hz, h4⟩) hsn hsc hi hj hp hq e1 e2 e3 e4 (gn (fr i)) 0 _ Ir Lr (by omega) n1
  exact ⟨a1, fun x hx => (a2 x (by omega) (by omega) (by omega) (by omega)).trans (n3 x (by omega)), a3, a4⟩

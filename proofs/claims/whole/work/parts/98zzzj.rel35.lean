/-! ===== do both ways agree: both programs ===== -/
theorem gw_wac {a : Nat} {J : ax_L} : ∀ n q z, ax_wac a n J q z = if q = a + 118 ∧ z < n then J (a + 118) z - J (a + 119) z else J q z := by
  intro n
  induction n with
  | zero => intro q z; rw [if_neg (by omega)]; rfl
  | succ n ih =>
    intro q z
    show ax_u (ax_wac a n J) (a + 118) n (ax_wac a n J (a + 118) n - ax_wac a n J (a + 119) n) q z = _
    by_cases hq : q = a + 118
    · subst hq
      by_cases hz : z = n
      · subst hz
        rw [ax_u_at, ih, ih, if_neg (by omega), if_neg (by omega), if_pos ⟨rfl, by omega⟩]
      · rw [ax_u_nj hz, ih]
        by_cases c : z < n
        · rw [if_pos ⟨rfl, c⟩, if_pos ⟨rfl, by omega⟩]
        · rw [if_neg (by omega), if_neg (by omega)]
    · rw [ax_u_ne hq, ih, if_neg (by omega), if_neg (by omega)]
theorem gw_ga6 {m : Nat} {J : ax_L} : ∀ n q z, ax_ga6 m n J q z = if q = m + 25 ∧ z < n then J (m + 25) z - J (m + 26) z else J q z := by
  intro n
  induction n with
  | zero => intro q z; rw [if_neg (by omega)]; rfl
  | succ n ih =>
    intro q z
    show ax_u (ax_ga6 m n J) (m + 25) n (ax_ga6 m n J (m + 25) n - ax_ga6 m n J (m + 26) n) q z = _
    by_cases hq : q = m + 25
    · subst hq
      by_cases hz : z = n
      · subst hz
        rw [ax_u_at, ih, ih, if_neg (by omega), if_neg (by omega), if_pos ⟨rfl, by omega⟩]
      · rw [ax_u_nj hz, ih]
        by_cases c : z < n
        · rw [if_pos ⟨rfl, c⟩, if_pos ⟨rfl, by omega⟩]
        · rw [if_neg (by omega), if_neg (by omega)]
    · rw [ax_u_ne hq, ih, if_neg (by omega), if_neg (by omega)]
theorem gw_all0 {L : ax_L} {r : Nat} : ∀ n, ax_all0 L r 0 n = true ↔ ∀ z, z < n → L r z = 0 := by
  intro n
  induction n with
  | zero => exact ⟨fun _ z h => absurd h (Nat.not_lt_zero _), fun _ => rfl⟩
  | succ n ih =>
    show (ax_all0 L r 0 n && decide (L r (0 + n) = 0)) = true ↔ _
    rw [Bool.and_eq_true, decide_eq_true_eq, ih, Nat.zero_add]
    refine ⟨fun h z hz => ?_, fun h => ⟨fun z hz => h z (by omega), h n (by omega)⟩⟩
    by_cases e : z = n
    · subst e; exact h.2
    · exact h.1 z (by omega)
/-- what is left of both ways, in the class -/
def gw_C (I : ax_I) (mp : Nat → Nat) (i j p q k : Nat) (L : ax_L) : ax_L := ax_wac 361 3 (ax_gbo I (ax_gbo I (ax_u (ax_fl1 477 0 6 L) 477 k 1) 361 1 mp i j 479) 361 1 mp p q 480)
/-- the tables in both -/
def gw_T (I : ax_I) (S : Nat → Int32) (mp fr tg gn : Nat → Nat) : Prop := ∀ e, e < 7 → fr e < 6 ∧ tg e < 6 ∧ (∀ z, z < 9 → I 7 (9 * mp e + z) = S (84 + 11 * mp e + 2 + z)) ∧ ∀ a b, a < 3 → b < 3 → gn (tg e) ≤ b → S (84 + 11 * mp e + 2 + 3 * a + b) = 0
set_option maxRecDepth 20000 in
theorem gw_rows {I : ax_I} {S : Nat → Int32} {mp fr tg gn gc : Nat → Nat} {i j p q k : Nat} {a b c : Int64} {Lc Lr : ax_L} (hT : gw_T I S mp fr tg gn) (hsn : ∀ g, g < 6 → S (14 * g) = nI (gn g) ∧ gn g ≤ 3) (hi : i < 7) (hj : j < 7) (hp : p < 7) (hq : q < 7) (e1 : tg i = fr j) (e2 : tg p = fr q) (e3 : fr i = fr p) (e4 : tg j = tg q) (hk : k < gn (fr i)) (habc : ∀ z, z < 3 → (if z = 0 then a else if z = 1 then b else c) = if z = k then 1 else 0) :
    (∀ z, z < 3 → gw_C I mp i j p q k Lc 479 z = ax_ga6 639 6 (gw_D 639 i j p q mp fr tg gn S a b c Lr) 664 z) ∧ (∀ z, gn (tg j) ≤ z → z < 6 → ax_ga6 639 6 (gw_D 639 i j p q mp fr tg gn S a b c Lr) 664 z = 0) ∧ (∀ x, x ≠ 477 → x ≠ 478 → x ≠ 479 → x ≠ 480 → gw_C I mp i j p q k Lc x = Lc x) ∧ ∀ x, x ≠ 664 → x ≠ 665 → x ≠ 666 → ax_ga6 639 6 (gw_D 639 i j p q mp fr tg gn S a b c Lr) x = Lr x := by
  obtain ⟨f1, f2, f3, f4⟩ := hT i hi
  obtain ⟨g1, g2, g3, g4⟩ := hT j hj
  obtain ⟨h1, h2, h3, h4⟩ := hT p hp
  obtain ⟨l1, l2, l3, l4⟩ := hT q hq
  have b1 := (hsn _ f1).2
  have b2 := (hsn _ f2).2
  have b3 := (hsn _ g2).2
  have b4 := (hsn _ h2).2
  have b5 := (hsn _ l2).2
  have b6 := (hsn _ g1).2
  have b7 := (hsn _ h1).2
  have b8 := (hsn _ l1).2
  -- the unit rows
  have u1 : ∀ z, z < 3 → ax_u (ax_fl1 477 0 6 Lc) 477 k 1 477 z = ax_st 666 3 a b c Lr 666 z := fun z hz => by
    rw [rl_st hz, if_pos hz, habc z hz]
    by_cases e : z = k
    · subst e; rw [ax_u_at, if_pos rfl]
    · rw [ax_u_nj e, ax_fl1_eq, if_neg e]
      show (if 477 = 477 ∧ z < 6 then (0 : Int64) else Lc 477 z) = 0
      rw [if_pos ⟨rfl, by omega⟩]
  have u2 : ∀ z, gn (fr i) ≤ z → z < 6 → ax_st 666 3 a b c Lr 666 z = 0 := fun z h8 h9 => by
    by_cases c3 : z < 3
    · rw [rl_st c3, if_pos c3, habc z c3, if_neg (by omega)]
    · exact gw_st6 (by omega) h9
  have w1 : ∀ x, x ≠ 477 → ax_u (ax_fl1 477 0 6 Lc) 477 k 1 x = Lc x := fun x hx => by
    rw [ax_u_ne hx, ax_fl1_eq]; funext z
    show (if x = 477 ∧ z < 6 then (0 : Int64) else Lc x z) = Lc x z
    rw [if_neg (by omega)]
  have w2 : ∀ x, x ≠ 666 → ax_st 666 3 a b c Lr x = Lr x := fun x hx => rl_st_ne hx
  have eC : gw_C I mp i j p q k Lc = ax_wac 361 3 (ax_apt I 7 (9 * mp q) 478 480 (ax_apt I 7 (9 * mp p) 477 478 (ax_apt I 7 (9 * mp j) 478 479 (ax_apt I 7 (9 * mp i) 477 478 (ax_u (ax_fl1 477 0 6 Lc) 477 k 1) 3) 3) 3) 3) := rfl
  have eD : gw_D 639 i j p q mp fr tg gn S a b c Lr = gw_im S 665 666 (mp q) (gn (fr q)) (gn (tg q)) (gw_im S 666 666 (mp p) (gn (fr p)) (gn (tg p)) (gw_im S 664 665 (mp j) (gn (fr j)) (gn (tg j)) (gw_im S 665 666 (mp i) (gn (fr i)) (gn (tg i)) (ax_st 666 3 a b c Lr)))) := rfl
  rw [eC, eD]
  generalize ax_u (ax_fl1 477 0 6 Lc) 477 k 1 = A0 at *
  generalize ax_st 666 3 a b c Lr = B0 at *
  obtain ⟨v1, v2⟩ := gw_1 (a := 477) (b := 478) (d := 665) (s := 666) (L1 := A0) (L2 := B0) b1 b2 (by omega) f3 f4 u1 u2
  have x1 : ∀ x, x ≠ 478 → ax_apt I 7 (9 * mp i) 477 478 A0 3 x = A0 x := fun x hx => gw_apt_ne (by omega) hx
  have y1 : ∀ x, x ≠ 665 → gw_im S 665 666 (mp i) (gn (fr i)) (gn (tg i)) B0 x = B0 x := fun x hx => gw_im_ne hx
  generalize ax_apt I 7 (9 * mp i) 477 478 A0 3 = A1 at *
  generalize gw_im S 665 666 (mp i) (gn (fr i)) (gn (tg i)) B0 = B1 at *
  obtain ⟨v3, v4⟩ := gw_1 (a := 478) (b := 479) (d := 664) (s := 665) (L1 := A1) (L2 := B1) b6 b3 (by omega) g3 g4 v1 (by rw [← e1]; exact v2)
  have x2 : ∀ x, x ≠ 479 → ax_apt I 7 (9 * mp j) 478 479 A1 3 x = A1 x := fun x hx => gw_apt_ne (by omega) hx
  have y2 : ∀ x, x ≠ 664 → gw_im S 664 665 (mp j) (gn (fr j)) (gn (tg j)) B1 x = B1 x := fun x hx => gw_im_ne hx
  generalize ax_apt I 7 (9 * mp j) 478 479 A1 3 = A2 at *
  generalize gw_im S 664 665 (mp j) (gn (fr j)) (gn (tg j)) B1 = B2 at *
  obtain ⟨v5, v6⟩ := gw_1 (a := 477) (b := 478) (d := 666) (s := 666) (L1 := A2) (L2 := B2) b7 b4 (by omega) h3 h4 (fun z hz => by rw [x2 477 (by omega), x1 477 (by omega), y2 666 (by omega), y1 666 (by omega)]; exact u1 z hz) (fun z h8 h9 => by rw [y2 666 (by omega), y1 666 (by omega)]; exact u2 z (by rw [e3]; exact h8) h9)
  have x3 : ∀ x, x ≠ 478 → ax_apt I 7 (9 * mp p) 477 478 A2 3 x = A2 x := fun x hx => gw_apt_ne (by omega) hx
  have y3 : ∀ x, x ≠ 666 → gw_im S 666 666 (mp p) (gn (fr p)) (gn (tg p)) B2 x = B2 x := fun x hx => gw_im_ne hx
  generalize ax_apt I 7 (9 * mp p) 477 478 A2 3 = A3 at *
  generalize gw_im S 666 666 (mp p) (gn (fr p)) (gn (tg p)) B2 = B3 at *
  obtain ⟨v7, v8⟩ := gw_1 (a := 478) (b := 480) (d := 665) (s := 666) (L1 := A3) (L2 := B3) b8 b5 (by omega) l3 l4 v5 (by rw [← e2]; exact v6)
  have x4 : ∀ x, x ≠ 480 → ax_apt I 7 (9 * mp q) 478 480 A3 3 x = A3 x := fun x hx => gw_apt_ne (by omega) hx
  have y4 : ∀ x, x ≠ 665 → gw_im S 665 666 (mp q) (gn (fr q)) (gn (tg q)) B3 x = B3 x := fun x hx => gw_im_ne hx
  generalize ax_apt I 7 (9 * mp q) 478 480 A3 3 = A4 at *
  generalize gw_im S 665 666 (mp q) (gn (fr q)) (gn (tg q)) B3 = B4 at *
  refine ⟨fun z hz => ?_, fun z h8 h9 => ?_, fun x q1 q2 q3 q4 => ?_, fun x q1 q2 q3 => ?_⟩
  · rw [gw_wac, gw_ga6, if_pos ⟨rfl, hz⟩, if_pos ⟨rfl, by omega⟩]
    show A4 479 z - A4 480 z = B4 664 z - B4 665 z
    rw [v7 z hz, x4 479 (by omega), x3 479 (by omega), v3 z hz, y4 664 (by omega), y3 664 (by omega)]
  · rw [gw_ga6, if_pos ⟨rfl, h9⟩]
    show B4 664 z - B4 665 z = 0
    rw [v8 z (by rw [← e4]; exact h8) h9, y4 664 (by omega), y3 664 (by omega), v4 z h8 h9]; rfl
  · funext z
    rw [gw_wac, if_neg (by omega), x4 x q4, x3 x q2, x2 x q3, x1 x q2, w1 x q1]
  · funext z
    rw [gw_ga6, if_neg (by omega), y4 x q2, y3 x q3, y2 x q1, y1 x q2, w2 x q3]

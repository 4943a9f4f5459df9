/-! ===== what the tests of a diagram tell: ways, rows ===== -/
theorem gz_j.lin {x y : Nat} {t : Nat → Nat → Int} {f g : Nat → Int} {c : Int} (z : Nat) : gz_j x y t (fun i => f i + c * g i) z = gz_j x y t f z + c * gz_j x y t g z := by
  unfold gz_j
  by_cases h : z < y
  · rw [if_pos h, if_pos h, if_pos h]
    unfold gz_i
    have : ∀ n, mt_s (fun i => (f i + c * g i) * t i z) n = mt_s (fun i => f i * t i z) n + c * mt_s (fun i => g i * t i z) n := by
      intro n
      induction n with
      | zero => show (0 : Int) = 0 + c * 0; omega
      | succ n ih =>
        show mt_s (fun i => (f i + c * g i) * t i z) n + (f n + c * g n) * t n z = (mt_s (fun i => f i * t i z) n + f n * t n z) + c * (mt_s (fun i => g i * t i z) n + g n * t n z)
        rw [ih]; grind
    exact this x
  · rw [if_neg h, if_neg h, if_neg h]; omega
/-- what is linear keeps what is spanned -/
theorem gz_lin {w N : Nat} {B X : Nat → Nat → Int} {D : (Nat → Int) → Nat → Int} (hD : ∀ f g c z, D (fun i => f i + c * g i) z = D f z + c * D g z) (h0 : ∀ z, D (fun _ => 0) z = 0) (hX : ∀ i, i < N → mt_sp w B (D (X i))) {v : Nat → Int} (hv : mt_sp N X v) : mt_sp w B (D v) := by
  obtain ⟨c, hc⟩ := hv
  have key : ∀ n, n ≤ N → mt_sp w B (D (fun j => mt_s (fun i => c i * X i j) n)) := by
    intro n
    induction n with
    | zero => intro _; exact mt_sp.zero.cg h0
    | succ n ih =>
      intro hn
      exact ((ih (by omega)).add ((hX n (by omega)).mul (c n))).cg (fun z => hD _ _ _ z)
  have : v = fun j => mt_s (fun i => c i * X i j) N := funext hc
  rw [this]; exact key N (Nat.le_refl _)
theorem gz_E {n : Nat} {f : Nat → Int} (h : ∀ i, n ≤ i → f i = 0) : mt_sp n gd_E f := ⟨f, fun j => by
  by_cases c : j < n
  · rw [mt_s_one (q := j) c (fun k _ hk => by rw [gd_En (Ne.symm hk), Int.mul_zero]), gd_Ei, Int.mul_one]
  · rw [h j (by omega), mt_s_0 (fun k hk => by rw [gd_En (by omega), Int.mul_zero])]⟩
/-- both ways of a generator -/
def gz_d (i j p q : Nat) (mp fr tg gn : Nat → Nat) (S : Nat → Int32) (f : Nat → Int) : Nat → Int := fun z => gz_j (gn (fr j)) (gn (tg j)) (mx_t S (mp j)) (gz_j (gn (fr i)) (gn (tg i)) (mx_t S (mp i)) f) z - gz_j (gn (fr q)) (gn (tg q)) (mx_t S (mp q)) (gz_j (gn (fr p)) (gn (tg p)) (mx_t S (mp p)) f) z
theorem gz_j0 {x y : Nat} {t : Nat → Nat → Int} (z : Nat) : gz_j x y t (fun _ => 0) z = 0 := by
  unfold gz_j
  split
  · exact mt_s_0 (fun i _ => Int.zero_mul _)
  · rfl
theorem gz_d.lin {i j p q : Nat} {mp fr tg gn : Nat → Nat} {S : Nat → Int32} (f g : Nat → Int) (c : Int) (z : Nat) : gz_d i j p q mp fr tg gn S (fun i => f i + c * g i) z = gz_d i j p q mp fr tg gn S f z + c * gz_d i j p q mp fr tg gn S g z := by
  unfold gz_d
  have e1 : gz_j (gn (fr i)) (gn (tg i)) (mx_t S (mp i)) (fun i => f i + c * g i) = fun z => gz_j (gn (fr i)) (gn (tg i)) (mx_t S (mp i)) f z + c * gz_j (gn (fr i)) (gn (tg i)) (mx_t S (mp i)) g z := funext fun z => gz_j.lin z
  have e2 : gz_j (gn (fr p)) (gn (tg p)) (mx_t S (mp p)) (fun i => f i + c * g i) = fun z => gz_j (gn (fr p)) (gn (tg p)) (mx_t S (mp p)) f z + c * gz_j (gn (fr p)) (gn (tg p)) (mx_t S (mp p)) g z := funext fun z => gz_j.lin z
  rw [e1, e2, gz_j.lin, gz_j.lin]
  grind
theorem gz_d0 {i j p q : Nat} {mp fr tg gn : Nat → Nat} {S : Nat → Int32} (z : Nat) : gz_d i j p q mp fr tg gn S (fun _ => 0) z = 0 := by
  unfold gz_d
  have e1 : gz_j (gn (fr i)) (gn (tg i)) (mx_t S (mp i)) (fun _ => 0) = fun _ => 0 := funext fun z => gz_j0 z
  have e2 : gz_j (gn (fr p)) (gn (tg p)) (mx_t S (mp p)) (fun _ => 0) = fun _ => 0 := funext fun z => gz_j0 z
  rw [e1, e2, gz_j0, gz_j0]; rfl
theorem gz_j.b {n m M : Nat} {t : Nat → Nat → Int} {f : Nat → Int} (hn : n ≤ 3) (ht : ∀ i j, (t i j).natAbs ≤ 99) (hf : ∀ i, i < n → (f i).natAbs ≤ M) (j : Nat) : (gz_j n m t f j).natAbs ≤ 297 * M := by
  unfold gz_j
  split
  · exact gz_i.b hn ht hf j
  · exact Nat.zero_le _
set_option maxRecDepth 20000 in
theorem gz_ways {I : ax_I} {S : Nat → Int32} {mp fr tg gn gc : Nat → Nat} {i j p q : Nat} (hW : rl_Wg S) (hWm : rl_Wm S) (hT : gw_M I S mp fr tg gn) (hsn : ∀ g, g < 6 → S (14 * g) = nI (gn g) ∧ gn g ≤ 3) (hsc : ∀ g, g < 6 → S (14 * g + 1) = nI (gc g) ∧ gc g ≤ 4) (hi : i < 7) (hj : j < 7) (hp : p < 7) (hq : q < 7) (e4 : tg j = tg q) :
    ∀ n k Ir Lr, k + n = gn (fr i) → (ax_gak 639 i j p q mp fr tg gn gc S n k (Ir, Lr)).1 = true → ∀ e, k ≤ e → e < gn (fr i) → mt_sp (gn (tg j)) (mt_N S gn gc (tg j)) (gz_d i j p q mp fr tg gn S (gd_E e)) := by
  obtain ⟨hMi, -, -⟩ := hT i hi
  obtain ⟨hMj, -, -⟩ := hT j hj
  obtain ⟨hMp, -, -⟩ := hT p hp
  obtain ⟨hMq, -, -⟩ := hT q hq
  intro n
  induction n with
  | zero => exact fun k Ir Lr hk _ e h1 h2 => absurd h2 (by omega)
  | succ n ih =>
    intro k Ir Lr hkn ht e h1 h2
    have b3 := (hsn _ hMi.2.1).2
    have u2 : ∃ a b c : Int64, (∀ z, z < 3 → (if z = 0 then a else if z = 1 then b else c) = if z = k then 1 else 0) ∧ ax_gak 639 i j p q mp fr tg gn gc S (n + 1) k (Ir, Lr) = if ax_all0 (gw_R 639 i j p q mp fr tg gn gc S a b c Lr) (639 + 25) 0 (6 - 0) = true then ax_gak 639 i j p q mp fr tg gn gc S n (k + 1) (ax_u Ir 639 6 (nI (gc (tg j))), gw_R 639 i j p q mp fr tg gn gc S a b c Lr) else (false, ax_u Ir 639 6 (nI (gc (tg j))), gw_R 639 i j p q mp fr tg gn gc S a b c Lr) := by
      rcases (show k = 0 ∨ k = 1 ∨ k = 2 by omega) with rfl | rfl | rfl
      · refine ⟨1, 0, 0, fun z hz => ?_, gw_k0⟩
        rcases (show z = 0 ∨ z = 1 ∨ z = 2 by omega) with rfl | rfl | rfl <;> rfl
      · refine ⟨0, 1, 0, fun z hz => ?_, gw_k1⟩
        rcases (show z = 0 ∨ z = 1 ∨ z = 2 by omega) with rfl | rfl | rfl <;> rfl
      · refine ⟨0, 0, 1, fun z hz => ?_, gw_k2⟩
        rcases (show z = 0 ∨ z = 1 ∨ z = 2 by omega) with rfl | rfl | rfl <;> rfl
    obtain ⟨a, b, c, habc, u2⟩ := u2
    have u3 : ax_gak 639 i j p q mp fr tg gn gc S (n + 1) k (Ir, Lr) = if ax_all0 (gw_R 639 i j p q mp fr tg gn gc S a b c Lr) 664 0 6 = true then ax_gak 639 i j p q mp fr tg gn gc S n (k + 1) (ax_u Ir 639 6 (nI (gc (tg j))), gw_R 639 i j p q mp fr tg gn gc S a b c Lr) else (false, ax_u Ir 639 6 (nI (gc (tg j))), gw_R 639 i j p q mp fr tg gn gc S a b c Lr) := u2
    clear u2
    rw [u3] at ht
    cases hh : ax_all0 (gw_R 639 i j p q mp fr tg gn gc S a b c Lr) 664 0 6 with
    | false => rw [hh, if_neg (by decide)] at ht; exact absurd ht (by show ¬ (false = true); decide)
    | true =>
      rw [hh, if_pos rfl] at ht
      by_cases ek : e = k
      case neg => exact ih (k + 1) _ _ (by omega) ht e (by omega) h2
      subst ek
      rw [gw_all0] at hh
      have r0 : ∀ z, z < 6 → ax_st 666 3 a b c Lr 666 z = Int64.ofInt (gd_E e z) := fun z hz => by
        by_cases c3 : z < 3
        · rw [rl_st c3, if_pos c3, habc z c3]
          unfold gd_E
          by_cases c4 : z = e
          · rw [if_pos c4, if_pos c4]; rfl
          · rw [if_neg c4, if_neg c4]; rfl
        · rw [gw_st6 (by omega) hz, gd_En (by omega)]; rfl
      have eD : gw_D 639 i j p q mp fr tg gn S a b c Lr = gw_im S 665 666 (mp q) (gn (fr q)) (gn (tg q)) (gw_im S 666 666 (mp p) (gn (fr p)) (gn (tg p)) (gw_im S 664 665 (mp j) (gn (fr j)) (gn (tg j)) (gw_im S 665 666 (mp i) (gn (fr i)) (gn (tg i)) (ax_st 666 3 a b c Lr)))) := rfl
      generalize ax_st 666 3 a b c Lr = B0 at *
      have r1 := gz_gw (d := 665) (S := S) (k := mp i) (y := gn (tg i)) (hsn _ hMi.2.1).2 (hsn _ hMi.2.2.1).2 r0
      have y1 : ∀ x, x ≠ 665 → gw_im S 665 666 (mp i) (gn (fr i)) (gn (tg i)) B0 x = B0 x := fun x hx => gw_im_ne hx
      generalize gw_im S 665 666 (mp i) (gn (fr i)) (gn (tg i)) B0 = B1 at *
      have r2 := gz_gw (d := 664) (S := S) (k := mp j) (y := gn (tg j)) (hsn _ hMj.2.1).2 (hsn _ hMj.2.2.1).2 r1
      have y2 : ∀ x, x ≠ 664 → gw_im S 664 665 (mp j) (gn (fr j)) (gn (tg j)) B1 x = B1 x := fun x hx => gw_im_ne hx
      generalize gw_im S 664 665 (mp j) (gn (fr j)) (gn (tg j)) B1 = B2 at *
      have r3 := gz_gw (d := 666) (s := 666) (S := S) (k := mp p) (y := gn (tg p)) (L := B2) (hsn _ hMp.2.1).2 (hsn _ hMp.2.2.1).2 (fun z hz => by rw [y2 666 (by omega), y1 666 (by omega)]; exact r0 z hz)
      have y3 : ∀ x, x ≠ 666 → gw_im S 666 666 (mp p) (gn (fr p)) (gn (tg p)) B2 x = B2 x := fun x hx => gw_im_ne hx
      generalize gw_im S 666 666 (mp p) (gn (fr p)) (gn (tg p)) B2 = B3 at *
      have r4 := gz_gw (d := 665) (S := S) (k := mp q) (y := gn (tg q)) (hsn _ hMq.2.1).2 (hsn _ hMq.2.2.1).2 r3
      have y4 : ∀ x, x ≠ 665 → gw_im S 665 666 (mp q) (gn (fr q)) (gn (tg q)) B3 x = B3 x := fun x hx => gw_im_ne hx
      generalize gw_im S 665 666 (mp q) (gn (fr q)) (gn (tg q)) B3 = B4 at *
      have rd : ∀ z, z < 6 → ax_ga6 639 6 (gw_D 639 i j p q mp fr tg gn S a b c Lr) 664 z = Int64.ofInt (gz_d i j p q mp fr tg gn S (gd_E e) z) := fun z hz => by
        rw [gw_ga6, if_pos ⟨rfl, hz⟩, eD]
        show B4 664 z - B4 665 z = _
        rw [r4 z hz, y4 664 (by omega), y3 664 (by omega), r2 z hz, ← Int64.ofInt_sub]
        rfl
      have eR : gw_R 639 i j p q mp fr tg gn gc S a b c Lr = ax_rs 664 644 0 (gn (tg j)) (ax_N1t 639 (tg j) 644 (gn (tg j)) (gc (tg j)) S (ax_ga6 639 6 (gw_D 639 i j p q mp fr tg gn S a b c Lr))) := rfl
      obtain ⟨t1, t2⟩ := rl_N1t (t := 644) hW hsn hsc hMj.2.2.1 (by omega) (by omega)
      obtain ⟨t3, t4, t5⟩ := t2 (ax_ga6 639 6 (gw_D 639 i j p q mp fr tg gn S a b c Lr))
      refine gz_red (r := 664) (t := 644) hW hsn hsc hMj.2.2.1 (by omega) t3 (fun z hz => by rw [t4 664 (by omega) (by omega) (by omega)]; exact rd z hz) (fun z => ?_) (fun z hz => ?_) (fun z hz => by rw [← eR]; exact hh z (by have := (hsn _ hMj.2.2.1).2; omega))
      · have E1 : ∀ z, (gd_E e z).natAbs ≤ 1 := fun z => by unfold gd_E; split <;> omega
        have g1 := gz_j.b (m := gn (tg j)) (t := mx_t S (mp j)) (f := gz_j (gn (fr i)) (gn (tg i)) (mx_t S (mp i)) (gd_E e)) (hsn _ hMj.2.1).2 (mx_t.b hWm hMj) (fun z _ => gz_j.b (M := 1) (hsn _ hMi.2.1).2 (mx_t.b hWm hMi) (fun z _ => E1 z) z) z
        have g2 := gz_j.b (m := gn (tg q)) (t := mx_t S (mp q)) (f := gz_j (gn (fr p)) (gn (tg p)) (mx_t S (mp p)) (gd_E e)) (hsn _ hMq.2.1).2 (mx_t.b hWm hMq) (fun z _ => gz_j.b (M := 1) (hsn _ hMp.2.1).2 (mx_t.b hWm hMp) (fun z _ => E1 z) z) z
        unfold gz_d
        omega
      · unfold gz_d
        have z1 : gz_j (gn (fr j)) (gn (tg j)) (mx_t S (mp j)) (gz_j (gn (fr i)) (gn (tg i)) (mx_t S (mp i)) (gd_E e)) z = 0 := if_neg (by omega)
        have z2 : gz_j (gn (fr q)) (gn (tg q)) (mx_t S (mp q)) (gz_j (gn (fr p)) (gn (tg p)) (mx_t S (mp p)) (gd_E e)) z = 0 := if_neg (by rw [← e4]; omega)
        rw [z1, z2]; rfl

/-! ===== nothing of a group in both; pairs: step, normal ===== -/
theorem mt_fdeq {x l : Int64} (hl : 0 < l) : ax_fd2 x l = ax_fdiv x l := by
  have rx : ∀ x : Int64, -9223372036854775808 ≤ x.toInt ∧ x.toInt ≤ 9223372036854775807 := fun x => ⟨Int64.le_toInt x, Int64.toInt_le x⟩
  have hl0 : 0 < l.toInt := by rw [Int64.lt_iff_toInt_lt] at hl; exact hl
  have ex := Int64.ofInt_toInt x
  have el := Int64.ofInt_toInt l
  obtain ⟨x1, x2⟩ := rx x
  obtain ⟨l1, l2⟩ := rx l
  have hd : x / l = Int64.ofInt (x.toInt.tdiv l.toInt) := by
    have := Int64.ofInt_tdiv (a := x.toInt) (b := l.toInt) (by rw [mt_mn]; exact x1) (by rw [mt_mx]; exact x2) (by rw [mt_mn]; exact l1) (by rw [mt_mx]; exact l2)
    rw [ex, el] at this; exact this.symm
  have hm : x / l * l = Int64.ofInt (x.toInt - x.toInt.tmod l.toInt) := by
    rw [hd]
    conv => lhs; rhs; rw [← el]
    rw [← Int64.ofInt_mul]
    congr 1
    have := Int.tmod_add_tdiv_mul x.toInt l.toInt
    omega
  have hml := mt_tml (x := x.toInt) (y := l.toInt) (by omega)
  have hr : x - x / l * l = Int64.ofInt (x.toInt.tmod l.toInt) := by
    rw [hm]
    conv => lhs; lhs; rw [← ex]
    rw [← Int64.ofInt_sub]
    congr 1
    omega
  have okm : mt_ok (x.toInt.tmod l.toInt) := by unfold mt_ok; omega
  have hln : ¬ l < 0 := fun z => by rw [Int64.lt_iff_toInt_lt] at z; have : (0 : Int64).toInt = 0 := rfl
                                    omega
  unfold ax_fd2 ax_fdiv
  rw [hr]
  have hx0 : x < 0 ↔ x.toInt < 0 := by rw [Int64.lt_iff_toInt_lt]; exact Iff.rfl
  have hz : 0 ≤ Int64.ofInt (x.toInt.tmod l.toInt) ↔ 0 ≤ x.toInt.tmod l.toInt := mt_le mt_ok0 okm
  by_cases c : x < 0
  · rw [if_neg (fun z => (mt_xor hln).mp z c)]
    have hneg : x.toInt.tmod l.toInt ≤ 0 := by
      have := Int.tmod_nonneg l.toInt (by have := hx0.mp c; omega : 0 ≤ -x.toInt)
      rw [Int.neg_tmod] at this; omega
    by_cases c2 : x.toInt.tmod l.toInt = 0
    · rw [if_pos (by rw [hm, c2, Int.sub_zero]; exact ex), if_pos (hz.mpr (by omega))]
    · rw [if_neg (fun z => c2 (by
        have h3 : x - x / l * l = 0 := by rw [z]; exact Int64.sub_self x
        rw [hr] at h3
        exact (mt_eq0 okm).mp h3)), if_neg (fun z => c2 (by have := hz.mp z; omega))]
  · have := Int.tmod_nonneg l.toInt (by have := mt hx0.mpr c; omega : 0 ≤ x.toInt)
    rw [if_pos ((mt_xor hln).mpr c), if_pos (hz.mpr this)]
/-- a row is reduced alike by both: whatever its numbers -/
theorem mt_rq {r b k : Nat} {t : Int64} {L : ax_L} (h : r ≠ b) : ∀ n q z, ax_rq r b k t n L q z = if q = r ∧ k ≤ z ∧ z < k + n then L r z - t * L b (6 * k + z) else L q z := by
  intro n
  induction n with
  | zero => intro q z; rw [if_neg (by omega)]; rfl
  | succ n ih =>
    intro q z
    have e1 : ax_rq r b k t n L r (k + n) = L r (k + n) := by rw [ih, if_neg (by omega)]
    have e2 : ax_rq r b k t n L b (6 * k + (k + n)) = L b (6 * k + (k + n)) := by rw [ih, if_neg (fun y => h y.1.symm)]
    show ax_u (ax_rq r b k t n L) r (k + n) (ax_rq r b k t n L r (k + n) - t * ax_rq r b k t n L b (6 * k + (k + n))) q z = _
    rw [e1, e2]
    by_cases hq : q = r
    · subst hq
      by_cases hz : z = k + n
      · subst hz; rw [ax_u_at, if_pos ⟨rfl, by omega, by omega⟩]
      · rw [ax_u_nj hz, ih]
        by_cases hz2 : k ≤ z ∧ z < k + n
        · rw [if_pos ⟨rfl, hz2⟩, if_pos ⟨rfl, hz2.1, by omega⟩]
        · rw [if_neg (fun y => hz2 y.2), if_neg (fun y => hz2 ⟨y.2.1, by omega⟩)]
    · rw [ax_u_ne hq, ih, if_neg (fun y => hq y.1), if_neg (fun y => hq y.1)]
theorem mt_alike {a q r t w : Nat} {B : Nat → Nat → Int} {L1 L2 : ax_L} (hw : w ≤ 6) (hq : q < a + 2 ∨ a + 7 < q) (hr : r ≠ t) (h1 : mt_lat L1 a B) (h2 : mt_at L2 t B) (hl : ∀ k, k < w → mt_ok (B k k) ∧ 0 ≤ B k k) (f : Nat) : ∀ n, f + n ≤ w → (∀ j, j < w → L1 q j = L2 r j) →
    (∀ j, j < w → ax_rfo a q w f n L1 q j = ax_rs r t f n L2 r j) ∧ (∀ x, x ≠ q → ax_rfo a q w f n L1 x = L1 x) ∧ (∀ x, x ≠ r → ax_rs r t f n L2 x = L2 x) ∧ ∀ z, w ≤ z → ax_rfo a q w f n L1 q z = L1 q z := by
  intro n
  induction n with
  | zero => exact fun _ h => ⟨h, fun _ _ => rfl, fun _ _ => rfl, fun _ _ => rfl⟩
  | succ n ih =>
    intro hn h
    obtain ⟨i1, i2, i3, i4⟩ := ih (by omega) h
    have e1 : ax_rfo a q w f (n + 1) L1 = if ax_rfo a q w f n L1 (a + 2 + (f + n)) (f + n) = 0 then ax_rfo a q w f n L1
      else if ax_fd2 (ax_rfo a q w f n L1 q (f + n)) (ax_rfo a q w f n L1 (a + 2 + (f + n)) (f + n)) = 0 then ax_rfo a q w f n L1
      else ax_rin a q (f + n) (ax_fd2 (ax_rfo a q w f n L1 q (f + n)) (ax_rfo a q w f n L1 (a + 2 + (f + n)) (f + n))) (w - (f + n)) (ax_rfo a q w f n L1) := rfl
    have e2 : ax_rs r t f (n + 1) L2 = if ax_rs r t f n L2 t (7 * (f + n)) = 0 then ax_rs r t f n L2 else ax_rq r t (f + n) (ax_fdiv (ax_rs r t f n L2 r (f + n)) (ax_rs r t f n L2 t (7 * (f + n)))) (6 - (f + n)) (ax_rs r t f n L2) := rfl
    have r1 : ∀ j, j < 6 → ax_rfo a q w f n L1 (a + 2 + (f + n)) j = Int64.ofInt (B (f + n) j) := fun j hj => by rw [i2 _ (by omega)]; exact h1 _ j (by omega) hj
    have r2 : ∀ j, j < 6 → ax_rs r t f n L2 t (6 * (f + n) + j) = Int64.ofInt (B (f + n) j) := fun j hj => by rw [i3 _ hr.symm]; exact h2 _ j (by omega) hj
    have r7 : ax_rs r t f n L2 t (7 * (f + n)) = Int64.ofInt (B (f + n) (f + n)) := by rw [show 7 * (f + n) = 6 * (f + n) + (f + n) by omega]; exact r2 _ (by omega)
    obtain ⟨o1, o2⟩ := hl (f + n) (by omega)
    rw [r1 _ (by omega), i1 (f + n) (by omega)] at e1
    rw [r7] at e2
    by_cases c : B (f + n) (f + n) = 0
    · rw [e1, e2, if_pos ((mt_eq0 o1).mpr c), if_pos ((mt_eq0 o1).mpr c)]
      exact ⟨i1, i2, i3, i4⟩
    · have c' : ¬ Int64.ofInt (B (f + n) (f + n)) = 0 := fun z => c ((mt_eq0 o1).mp z)
      have hpos : 0 < Int64.ofInt (B (f + n) (f + n)) := (mt_lt mt_ok0 o1).mpr (by omega)
      rw [if_neg c', mt_fdeq hpos] at e1
      rw [if_neg c'] at e2
      have s2 : ∀ j, j < w → ax_rs r t f (n + 1) L2 r j = if f + n ≤ j then ax_rs r t f n L2 r j - ax_fdiv (ax_rs r t f n L2 r (f + n)) (Int64.ofInt (B (f + n) (f + n))) * Int64.ofInt (B (f + n) j) else ax_rs r t f n L2 r j := fun j hj => by
        rw [e2, mt_rq hr]
        by_cases cj : f + n ≤ j
        · rw [if_pos ⟨rfl, cj, by omega⟩, if_pos cj, r2 j (by omega)]
        · rw [if_neg (fun y => cj y.2.1), if_neg cj]
      have s3 : ∀ x, x ≠ r → ax_rs r t f (n + 1) L2 x = L2 x := fun x hx => by
        rw [e2]; funext z; rw [mt_rq hr, if_neg (fun y => hx y.1)]; exact congrFun (i3 x hx) z
      by_cases c2 : ax_fdiv (ax_rs r t f n L2 r (f + n)) (Int64.ofInt (B (f + n) (f + n))) = 0
      · rw [if_pos c2] at e1
        rw [e1]
        refine ⟨fun j hj => ?_, i2, s3, i4⟩
        rw [s2 j hj, c2, i1 j hj]
        split
        · rw [Int64.zero_mul, Int64.sub_zero]
        · rfl
      · rw [if_neg c2] at e1
        rw [e1]
        refine ⟨fun j hj => ?_, fun x hx => ?_, s3, fun z hz => ?_⟩
        · rw [s2 j hj, mt_rin (by omega)]
          by_cases cj : f + n ≤ j
          · rw [if_pos ⟨rfl, cj, by omega⟩, if_pos cj, i1 j hj, r1 j (by omega)]
          · rw [if_neg (fun y => cj y.2.1), if_neg cj]; exact i1 j hj
        · funext z; rw [mt_rin (by omega), if_neg (fun y => hx y.1)]; exact congrFun (i2 x hx) z
        · rw [mt_rin (by omega), if_neg (by omega)]; exact i4 z hz
/-- nothing of a group, in both -/
noncomputable def mt_N (S : Nat → Int32) (gn gc : Nat → Nat) (g : Nat) : Nat → Nat → Int := mt_nt (gn g) (gc g) (mt_rel S g (gn g))
theorem rl_nth {b x g : Nat} {I : ax_I} {S : Nat → Int32} {gn gc : Nat → Nat} (h : rl_St b I S) (hsn : ∀ g, g < 6 → S (14 * g) = nI (gn g) ∧ gn g ≤ 3) (hsc : ∀ g, g < 6 → S (14 * g + 1) = nI (gc g) ∧ gc g ≤ 4) (hg : g < 6) (hx : b + 3 ≠ x) (L : ax_L) :
    mt_lat (ax_nth I b x g (gn g) (gc g) L) x (mt_N S gn gc g) ∧ (mt_hn (gn g) (mt_N S gn gc g) ∧ (∀ k, k < gn g → mt_sp (gc g) (mt_rel S g (gn g)) (mt_N S gn gc g k)) ∧ ∀ i, i < gc g → mt_sp (gn g) (mt_N S gn gc g) (mt_rel S g (gn g) i)) ∧ ∀ q, (q < x + 2 ∨ x + 8 < q) → ax_nth I b x g (gn g) (gc g) L q = L q := by
  obtain ⟨n1, n2⟩ := hsn g hg
  obtain ⟨c1, c2⟩ := hsc g hg
  obtain ⟨n', c', z1, z2, z3, z4, z5⟩ := h.2.1 g hg
  have ec : c' = gc g := (nI_eq (by omega) (by omega)).mp (z4.symm.trans c1)
  subst ec
  obtain ⟨m1, m2, m3⟩ := mt_fno (I := ax_u I x 2 (nI (gn g))) (a := b) (b := x) (g := g) (w := gn g) (c := gc g) (X := mt_rel S g (gn g)) (L := ax_clr x 6 L) n2 (fun r j hr hj => by
    have h1 := h.1.2.1 g r j hg (by omega) (by omega) (by rw [c1, nI_clamp (by omega)]; exact hr)
    rw [n1, nI_clamp (by omega), if_pos hj] at h1
    unfold mt_rel
    rw [if_pos hj, ax_u_ne hx, show (g * 4 + r) * 3 + j = 12 * g + 3 * r + j by omega, h1, Int32.ofInt_toInt]
    exact ⟨rfl, mt_9 (z5 r j hr (by omega))⟩) (fun r j hj => by unfold mt_rel; rw [if_neg (by omega)]) (fun k j hk hj => by rw [mt_clr 6 (by omega), if_pos ⟨⟨k, hk, rfl⟩, hj⟩]) (gc g) (Nat.le_refl _)
  refine ⟨m1, m2, fun q hq => ?_⟩
  show ax_fno _ _ _ _ _ _ _ q = _
  rw [m3 q hq]
  funext z
  rw [mt_clr 6 (by omega), if_neg]
  rintro ⟨⟨k, h1, h2⟩, -⟩
  omega
theorem rl_N1 {S : Nat → Int32} {gn gc : Nat → Nat} {g t : Nat} (hW : rl_Wg S) (hsn : ∀ g, g < 6 → S (14 * g) = nI (gn g) ∧ gn g ≤ 3) (hsc : ∀ g, g < 6 → S (14 * g + 1) = nI (gc g) ∧ gc g ≤ 4) (hg : g < 6) (ht : t ≠ 643) (ht2 : t ≠ 649) (L : ax_L) :
    ∃ Y, ax_N1 639 g t (gn g) (gc g) 9223372036854775808 S L = some Y ∧ mt_at Y t (mt_N S gn gc g) ∧ (∀ q, q ≠ 643 → q ≠ t → q ≠ 649 → Y q = L q) ∧ ∀ k, k < gn g → mt_ok (mt_N S gn gc g k k) ∧ 0 ≤ mt_N S gn gc g k k := by
  obtain ⟨n1, n2⟩ := hsn g hg
  obtain ⟨c1, c2⟩ := hsc g hg
  obtain ⟨n', c', z1, z2, z3, z4, z5⟩ := hW g hg
  have ec : c' = gc g := (nI_eq (by omega) (by omega)).mp (z4.symm.trans c1)
  subst ec
  obtain ⟨Y, y1, y2, y3, y4, y5⟩ := mt_N1 (S := S) (m := 639) (g := g) (t := t) (wd := gn g) (rc := gc g) n2 z5 ht ht2 L
  refine ⟨Y, y1, y2, y4, fun k hk => ⟨?_, y3.1.2.1 k hk⟩⟩
  have := y5 k hk
  unfold mt_ok
  rcases (show k = 0 ∨ k = 1 ∨ k = 2 by omega) with rfl | rfl | rfl
  · exact Nat.lt_of_le_of_lt this (by decide)
  · exact Nat.lt_of_le_of_lt this (by decide)
  · exact Nat.lt_of_le_of_lt this (by decide)
/-- what is at work in the two objects may change: the numbers of the class's Lattices, rows and of the reference's rows -/
theorem rl_Rel.work {G : ax_G} {I J : ax_I} {L M : ax_L} (h : rl_Rel G I L) (hJ : ∀ q, (q ≠ 639 ∧ q ≠ 597 ∧ q ≠ 606 ∧ q ≠ 615 ∧ q ≠ 617 ∧ q ≠ 619) → J q = I q) (hj : ∀ z, (z = 3 ∨ z = 4 ∨ z = 29) → J 639 z = I 639 z) (hM : ∀ q, ((623 ≤ q ∧ q < 639) ∨ q = 669 ∨ q = 672) → M q = L q) : rl_Rel G J M :=
  h.keep (by rw [hJ 0 (by omega)]) (fun q _ _ => hJ q (by omega)) (by rw [hJ 311 (by omega)]) (hJ 312 (by omega)) (fun q _ _ => hJ q (by omega)) (hj 3 (by omega)) (hj 4 (by omega)) (hj 29 (by omega)) (fun q _ _ => hJ q (by omega)) (hJ 657 (by omega)) (fun q _ _ => hJ q (by omega)) (fun q h1 h2 => hM q (by omega)) (hM 669 (by omega)) (hM 672 (by omega))

/-! ===== is a diagram right: both ===== -/
/-- the maps of a diagram fit -/
def gw_E (fr tg : Nat → Nat) : Prop := tg 0 = fr 1 ∧ tg 0 = fr 5 ∧ tg 2 = fr 3 ∧ tg 2 = tg 5 ∧ fr 0 = fr 4 ∧ tg 4 = fr 2 ∧ tg 1 = fr 6 ∧ tg 6 = tg 3
/-- what is asked behind 'well', told by the reference from an empty memory -/
noncomputable def gw_V (mp fr tg gn gc : Nat → Nat) (S : Nat → Int32) : Bool := (((ax_exRv (fun _ _ => 0) 639 (mp 0) (fr 0) (tg 0) (mp 1) (fr 1) (tg 1) gn gc S) && ax_on (ax_M1t 639 (mp 1) (tg 1) (gn (fr 1)) (gn (tg 1)) (gc (tg 1)) S (fun _ _ => 0) 646) (gn (tg 1)) && (ax_exRv (fun _ _ => 0) 639 (mp 2) (fr 2) (tg 2) (mp 3) (fr 3) (tg 3) gn gc S) && (ax_alike (ax_N1t 639 (fr 2) 644 (gn (fr 2)) (gc (fr 2)) S (ax_M1t 639 (mp 2) (tg 2) (gn (fr 2)) (gn (tg 2)) (gc (tg 2)) S (fun _ _ => 0))) 645 644 36) && (ax_gaRv (fun _ _ => 0) (fun _ _ => 0) 639 0 5 4 2 mp fr tg gn gc S) && (ax_gaRv (fun _ _ => 0) (fun _ _ => 0) 639 5 3 1 6 mp fr tg gn gc S)))
noncomputable def gw_w (mp fr tg gn gc : Nat → Nat) (S : Nat → Int32) (e : Nat) : Bool := (ax_wl 639 (mp e) (fr e) (tg e) (gn (fr e)) (gn (tg e)) (gc (fr e)) (gc (tg e)) S (fun _ _ => 0)).1
set_option maxRecDepth 20000 in
theorem gw_fin {I : ax_I} {L : ax_L} {S : Nat → Int32} {mp fr tg gn gc : Nat → Nat} (hSt : rl_St 1 I S) (hT : gw_M I S mp fr tg gn) (hsn : ∀ g, g < 6 → S (14 * g) = nI (gn g) ∧ gn g ≤ 3) (hsc : ∀ g, g < 6 → S (14 * g + 1) = nI (gc g) ∧ gc g ≤ 4) (hE : gw_E fr tg) (k : Nat) :
    (ax_irk 361 1 mp fr tg gn gc 0 k (I, L)).1 = gw_V mp fr tg gn gc S ∧ ∀ q, (q < 366 ∨ 480 < q) → (ax_irk 361 1 mp fr tg gn gc 0 k (I, L)).2.2 q = L q := by
  obtain ⟨e1, e2, e3, e4, e5, e6, e7, e8⟩ := hE
  obtain ⟨a1, ⟨-, -, a4⟩, a5, a6, -⟩ := gw_ex (L := L) (Lr := (fun _ _ => 0)) hSt hT hsn hsc (i := 0) (j := 1) (by omega) (by omega) e1
  have St1 : rl_St 1 (ax_rxI I 361 fr tg gn 0 1) S := hSt.far (fun q hq => a6 q (by omega))
  have hT1 : gw_M (ax_rxI I 361 fr tg gn 0 1) S mp fr tg gn := hT.far (a6 7 (by omega))
  obtain ⟨b1, ⟨b2, b3, -⟩, b5, b6, -⟩ := gw_ex (L := (ax_rxL I L 361 1 mp fr tg gn gc 0 1)) (Lr := (fun _ _ => 0)) St1 hT1 hsn hsc (i := 2) (j := 3) (by omega) (by omega) e3
  have St2 : rl_St 1 (ax_rxI (ax_rxI I 361 fr tg gn 0 1) 361 fr tg gn 2 3) S := St1.far (fun q hq => b6 q (by omega))
  have hT2 : gw_M (ax_rxI (ax_rxI I 361 fr tg gn 0 1) 361 fr tg gn 2 3) S mp fr tg gn := hT1.far (b6 7 (by omega))
  obtain ⟨c1, -⟩ := gw_on (Lr := (fun _ _ => 0)) hSt hT hsn hsc (j := 1) (by omega) a4
  obtain ⟨d1, -⟩ := gw_oto (Lr := (fun _ _ => 0)) hSt hT hsn hsc (j := 2) (by omega) b2 b3
  obtain ⟨f1, f2, -⟩ := gw_both (L := (ax_rxL (ax_rxI I 361 fr tg gn 0 1) (ax_rxL I L 361 1 mp fr tg gn gc 0 1) 361 1 mp fr tg gn gc 2 3)) (Lr := (fun _ _ => 0)) (Ir := (fun _ _ => 0)) (i := 0) (j := 5) (p := 4) (q := 2) St2 hT2.T hsn hsc (by omega) (by omega) (by omega) (by omega) e2 e6 e5 e4.symm
  have St3 : rl_St 1 (ax_u (ax_rxI (ax_rxI I 361 fr tg gn 0 1) 361 fr tg gn 2 3) 373 2 (nI (gn (tg 5)))) S := St2.far (fun q hq => ax_u_ne (by omega))
  have hT3 : gw_M (ax_u (ax_rxI (ax_rxI I 361 fr tg gn 0 1) 361 fr tg gn 2 3) 373 2 (nI (gn (tg 5)))) S mp fr tg gn := hT2.far (ax_u_ne (by omega))
  obtain ⟨g1, g2, -⟩ := gw_both (L := (ax_waL (ax_rxI (ax_rxI I 361 fr tg gn 0 1) 361 fr tg gn 2 3) (ax_rxL (ax_rxI I 361 fr tg gn 0 1) (ax_rxL I L 361 1 mp fr tg gn gc 0 1) 361 1 mp fr tg gn gc 2 3) 361 1 mp fr tg gn gc 0 5 4 2)) (Lr := (fun _ _ => 0)) (Ir := (fun _ _ => 0)) (i := 5) (j := 3) (p := 1) (q := 6) St3 hT3.T hsn hsc (by omega) (by omega) (by omega) (by omega) (e4.symm.trans e3) e7 (e2.symm.trans e1) e8.symm
  have c2 : (if ax_ixp 439 (ax_rxL I L 361 1 mp fr tg gn gc 0 1) (gn (tg 1)) = 1 then true else false) = (ax_on (ax_M1t 639 (mp 1) (tg 1) (gn (fr 1)) (gn (tg 1)) (gc (tg 1)) S (fun _ _ => 0) 646) (gn (tg 1))) := by
    rw [← c1]
    by_cases c : ax_ixp 439 (ax_rxL I L 361 1 mp fr tg gn gc 0 1) (gn (tg 1)) = 1
    · rw [if_pos c, decide_eq_true c]
    · rw [if_neg c, decide_eq_false c]
  rw [gw_irk0, gw_f.v, a1, c2, b1, d1, f1, g1]
  refine ⟨rfl, fun q hq => ?_⟩
  have q1 : (ax_rxL I L 361 1 mp fr tg gn gc 0 1) q = L q := a5 q (by omega)
  have q2 : (ax_rxL (ax_rxI I 361 fr tg gn 0 1) (ax_rxL I L 361 1 mp fr tg gn gc 0 1) 361 1 mp fr tg gn gc 2 3) q = L q := (b5 q (by omega)).trans q1
  have q3 : (ax_waL (ax_rxI (ax_rxI I 361 fr tg gn 0 1) 361 fr tg gn 2 3) (ax_rxL (ax_rxI I 361 fr tg gn 0 1) (ax_rxL I L 361 1 mp fr tg gn gc 0 1) 361 1 mp fr tg gn gc 2 3) 361 1 mp fr tg gn gc 0 5 4 2) q = L q := (f2 q (by omega)).trans q2
  exact gw_f.q (P := fun x : ax_I × ax_L => x.2 q = L q) q1 q2 q3 ((g2 q (by omega)).trans q3)
def gw_all (w : Nat → Bool) : Nat → Nat → Bool
  | 0, _ => true
  | n + 1, k => w k && gw_all w n (k + 1)
def gw_alr (w : Nat → Bool) : Nat → Bool
  | 0 => true
  | n + 1 => gw_alr w n && w n
theorem gw_well {I : ax_I} {S : Nat → Int32} {mp fr tg gn gc : Nat → Nat} (hSt : rl_St 1 I S) (hT : gw_M I S mp fr tg gn) (hsn : ∀ g, g < 6 → S (14 * g) = nI (gn g) ∧ gn g ≤ 3) (hsc : ∀ g, g < 6 → S (14 * g + 1) = nI (gc g) ∧ gc g ≤ 4) {e : Nat} (he : e < 7) (Lc Lr : ax_L) :
    (ax_ldv I Lc 363 1 (mp e) (fr e) (tg e) (gn (fr e)) (gc (fr e)) (gn (tg e)) (gc (tg e))) = gw_w mp fr tg gn gc S e ∧ (ax_wl 639 (mp e) (fr e) (tg e) (gn (fr e)) (gn (tg e)) (gc (fr e)) (gc (tg e)) S Lr).1 = gw_w mp fr tg gn gc S e ∧ (∀ q, (q < 366 ∨ 419 < q) → (ax_ldL I Lc 363 1 (mp e) (fr e) (tg e) (gn (fr e)) (gc (fr e)) (gn (tg e)) (gc (tg e))) q = Lc q) ∧ ∀ q, q ≠ 643 → q ≠ 648 → q ≠ 649 → q ≠ 650 → (ax_wl 639 (mp e) (fr e) (tg e) (gn (fr e)) (gn (tg e)) (gc (fr e)) (gc (tg e)) S Lr).2 q = Lr q := by
  obtain ⟨hM, t1, -⟩ := hT e he
  obtain ⟨a1, a2, a3⟩ := rl_wellA (aa := 363) (by omega) (Lc := Lc) (Lr := Lr) hSt hsn hsc hM t1
  obtain ⟨b1, -, -⟩ := rl_wellA (aa := 363) (by omega) (Lc := Lc) (Lr := (fun _ _ => 0)) hSt hsn hsc hM t1
  exact ⟨b1, a1.symm.trans b1, fun q hq => a2 q (by omega), a3⟩
set_option maxRecDepth 20000 in
/-- the class -/
theorem gw_cls {S : Nat → Int32} {mp fr tg gn gc : Nat → Nat} (hsn : ∀ g, g < 6 → S (14 * g) = nI (gn g) ∧ gn g ≤ 3) (hsc : ∀ g, g < 6 → S (14 * g + 1) = nI (gc g) ∧ gc g ≤ 4) (hE : gw_E fr tg) : ∀ n k (I : ax_I) (L : ax_L), k + n = 7 → rl_St 1 I S → gw_M I S mp fr tg gn →
    (ax_irk 361 1 mp fr tg gn gc n k (I, L)).1 = (gw_all (gw_w mp fr tg gn gc S) n k && gw_V mp fr tg gn gc S) ∧ ∀ q, (q < 366 ∨ 480 < q) → (ax_irk 361 1 mp fr tg gn gc n k (I, L)).2.2 q = L q := by
  intro n
  induction n with
  | zero =>
    intro k I L hk hSt hT
    obtain ⟨a1, a2⟩ := gw_fin (L := L) hSt hT hsn hsc hE k
    refine ⟨?_, a2⟩
    rw [a1]; exact (Bool.true_and _).symm
  | succ n ih =>
    intro k I L hk hSt hT
    obtain ⟨a1, -, a3, -⟩ := gw_well hSt hT hsn hsc (e := k) (by omega) L (fun _ _ => 0)
    have u : ax_irk 361 1 mp fr tg gn gc (n + 1) k (I, L) = if (ax_ldv I L 363 1 (mp k) (fr k) (tg k) (gn (fr k)) (gc (fr k)) (gn (tg k)) (gc (tg k))) = true then ax_irk 361 1 mp fr tg gn gc n (k + 1) ((ax_ldI I 363 (gn (fr k)) (gn (tg k))), (ax_ldL I L 363 1 (mp k) (fr k) (tg k) (gn (fr k)) (gc (fr k)) (gn (tg k)) (gc (tg k)))) else (false, (ax_ldI I 363 (gn (fr k)) (gn (tg k))), (ax_ldL I L 363 1 (mp k) (fr k) (tg k) (gn (fr k)) (gc (fr k)) (gn (tg k)) (gc (tg k)))) := rfl
    rw [a1] at u
    cases hw : gw_w mp fr tg gn gc S k with
    | false =>
      rw [hw, if_neg (by decide)] at u
      rw [u, show gw_all (gw_w mp fr tg gn gc S) (n + 1) k = (gw_w mp fr tg gn gc S k && gw_all (gw_w mp fr tg gn gc S) n (k + 1)) from rfl, hw]
      exact ⟨rfl, fun q hq => a3 q (by omega)⟩
    | true =>
      rw [hw, if_pos rfl] at u
      obtain ⟨i1, i2⟩ := ih (k + 1) (ax_ldI I 363 (gn (fr k)) (gn (tg k))) (ax_ldL I L 363 1 (mp k) (fr k) (tg k) (gn (fr k)) (gc (fr k)) (gn (tg k)) (gc (tg k))) (by omega) (hSt.far (fun q hq => ax_ldI_ne (by omega))) (hT.far (ax_ldI_ne (by omega)))
      rw [u, i1, show gw_all (gw_w mp fr tg gn gc S) (n + 1) k = (gw_w mp fr tg gn gc S k && gw_all (gw_w mp fr tg gn gc S) n (k + 1)) from rfl, hw, Bool.true_and]
      exact ⟨rfl, fun q hq => (i2 q hq).trans (a3 q (by omega))⟩
set_option maxRecDepth 20000 in
/-- the reference: the maps -/
theorem gw_wlk {I Ir : ax_I} {Lr : ax_L} {S : Nat → Int32} {mp fr tg gn gc : Nat → Nat} (hSt : rl_St 1 I S) (hT : gw_M I S mp fr tg gn) (hsn : ∀ g, g < 6 → S (14 * g) = nI (gn g) ∧ gn g ≤ 3) (hsc : ∀ g, g < 6 → S (14 * g + 1) = nI (gc g) ∧ gc g ≤ 4) : ∀ n, n ≤ 7 →
    (ax_wlk 639 mp fr tg gn gc S n (Ir, Lr, true)).2.2 = gw_alr (gw_w mp fr tg gn gc S) n ∧ (∀ q, q ≠ 643 → q ≠ 648 → q ≠ 649 → q ≠ 650 → (ax_wlk 639 mp fr tg gn gc S n (Ir, Lr, true)).2.1 q = Lr q) ∧ ∀ z, z ≠ 6 → (ax_wlk 639 mp fr tg gn gc S n (Ir, Lr, true)).1 639 z = Ir 639 z := by
  intro n
  induction n with
  | zero => exact fun _ => ⟨rfl, fun _ _ _ _ _ => rfl, fun _ _ => rfl⟩
  | succ n ih =>
    intro hn
    obtain ⟨i1, i2, i3⟩ := ih (by omega)
    have u : ax_wlk 639 mp fr tg gn gc S (n + 1) (Ir, Lr, true) = if (ax_wlk 639 mp fr tg gn gc S n (Ir, Lr, true)).2.2 = true then (if (ax_wl 639 (mp n) (fr n) (tg n) (gn (fr n)) (gn (tg n)) (gc (fr n)) (gc (tg n)) S (ax_wlk 639 mp fr tg gn gc S n (Ir, Lr, true)).2.1).1 = true then (ax_u (ax_wlk 639 mp fr tg gn gc S n (Ir, Lr, true)).1 639 6 (nI (gc (tg n))), (ax_wl 639 (mp n) (fr n) (tg n) (gn (fr n)) (gn (tg n)) (gc (fr n)) (gc (tg n)) S (ax_wlk 639 mp fr tg gn gc S n (Ir, Lr, true)).2.1).2, true) else (ax_u (ax_wlk 639 mp fr tg gn gc S n (Ir, Lr, true)).1 639 6 (nI (gc (tg n))), (ax_wl 639 (mp n) (fr n) (tg n) (gn (fr n)) (gn (tg n)) (gc (fr n)) (gc (tg n)) S (ax_wlk 639 mp fr tg gn gc S n (Ir, Lr, true)).2.1).2, false)) else ((ax_wlk 639 mp fr tg gn gc S n (Ir, Lr, true)).1, (ax_wlk 639 mp fr tg gn gc S n (Ir, Lr, true)).2.1, false) := rfl
    have eA : gw_alr (gw_w mp fr tg gn gc S) (n + 1) = (gw_alr (gw_w mp fr tg gn gc S) n && gw_w mp fr tg gn gc S n) := rfl
    generalize ax_wlk 639 mp fr tg gn gc S n (Ir, Lr, true) = X at u i1 i2 i3
    obtain ⟨-, b2, -, b4⟩ := gw_well hSt hT hsn hsc (e := n) (by omega) (fun _ _ => 0) X.2.1
    rw [b2, i1] at u
    rw [eA]
    cases ha : gw_alr (gw_w mp fr tg gn gc S) n with
    | false =>
      rw [ha, if_neg (by decide)] at u
      rw [u]
      exact ⟨rfl, i2, i3⟩
    | true =>
      rw [ha, if_pos rfl] at u
      have f1 : ∀ q, q ≠ 643 → q ≠ 648 → q ≠ 649 → q ≠ 650 → (ax_wl 639 (mp n) (fr n) (tg n) (gn (fr n)) (gn (tg n)) (gc (fr n)) (gc (tg n)) S X.2.1).2 q = Lr q := fun q q1 q2 q3 q4 => (b4 q q1 q2 q3 q4).trans (i2 q q1 q2 q3 q4)
      have f2 : ∀ z, z ≠ 6 → ax_u X.1 639 6 (nI (gc (tg n))) 639 z = Ir 639 z := fun z hz => (ax_u_nj hz).trans (i3 z hz)
      cases hw : gw_w mp fr tg gn gc S n with
      | false =>
        rw [hw, if_neg (by decide)] at u
        rw [u]; exact ⟨rfl, f1, f2⟩
      | true =>
        rw [hw, if_pos rfl] at u
        rw [u]; exact ⟨rfl, f1, f2⟩
theorem gw_seven (w : Nat → Bool) : gw_all w 7 0 = gw_alr w 7 := by
  show (w 0 && (w 1 && (w 2 && (w 3 && (w 4 && (w 5 && (w 6 && true))))))) = (((((((true && w 0) && w 1) && w 2) && w 3) && w 4) && w 5) && w 6)
  rw [Bool.true_and, Bool.and_true, Bool.and_assoc, Bool.and_assoc, Bool.and_assoc, Bool.and_assoc, Bool.and_assoc]

/-! ===== text: the reference, a text that is right, told by the machine ===== -/
set_option maxRecDepth 20000 in
theorem t_right (l : Launch) (D : va_G) (T : Nat → ClassId) (o : Nat) {G : ax_G} {Ie : ax_I} {Le : ax_L} {S : Nat → Int32} {gn gc : Nat → Nat} {c N f c3 : Nat} {u : ax_TS} {F T' : Nat → Int32} {B : Nat → Nat → Int64} {e : Nat → Nat} {M : Nat → tM} (hMo : ax_Mod G 639) (hW : rl_Wg S) (hsn : ∀ g, g < 6 → S (14 * g) = nI (gn g) ∧ gn g ≤ 3) (hsc : ∀ g, g < 6 → S (14 * g + 1) = nI (gc g) ∧ gc g ≤ 4) (i640 : Ie 640 = S) (hf : f < 8) (hc3 : Ie 639 3 = nI c3) (hc3' : c3 ≤ 20) (hc : Ie 639 29 = nI c) (hc1 : c ≤ 100) (hX : ax_tx (Ie 657) c N 3 0 (0, 0, false, Ie 658) = some u) (hwr : u.2.2.1 = false) (hvl : ax_vl (Ie 657) c (ax_nx (Ie 657) (c - u.1) u.1) = -1) (hhe : ax_nx (Ie 657) (c - u.1) u.1 = c) (hS : tS S gn F T' B) (hR : tR F T' B e M u.2.1) (hce : ∀ k, k < u.2.1 → u.2.2.2 k = nI (e k)) (he : ∀ k, e k ≤ 43) (hno : ∀ k, k < u.2.1 → 8 ≤ e k → 20 ≤ e k) (hd1 : (M u.2.1).1 = 1) :
    ∃ (J : ax_I) (v : Int32) (I' : ax_I) (L' : ax_L), (∀ q, q ≠ 639 → q ≠ 658 → J q = Ie q) ∧ (∀ j, j < 29 → J 639 j = Ie 639 j) ∧ J 639 29 = nI 0 ∧ ax_Con l D T o yX11_text cX11_text 4 (some .int) 1000 0 0 [.ref 639, .int (nI f)] G Ie Le (fun w G2 I2 L2 => w = some (.int v) ∧ G = G2 ∧ I' = I2 ∧ L' = L2) ∧
      ((M u.2.1).2.2.1 = true → v = -300 ∧ I' = J ∧ L' = Le) ∧
      ((M u.2.1).2.2.1 = false → (M u.2.1).2.2.2.1 = true → v = -301 ∧ (∀ q, q ≠ 659 → q ≠ 660 → I' q = J q) ∧ L' = Le) ∧
      ((M u.2.1).2.2.1 = false → (M u.2.1).2.2.2.1 = false → (M u.2.1).2.2.2.2 = true → v = -16 ∧ (∀ q, q ≠ 659 → q ≠ 660 → I' q = J q) ∧ ∀ q, q ≠ 661 → q ≠ 662 → L' q = Le q) ∧
      ((M u.2.1).2.2.1 = false → (M u.2.1).2.2.2.1 = false → (M u.2.1).2.2.2.2 = false → ∃ p r, p < 6 ∧ r < 6 ∧ ((M u.2.1).2.1 0).1 = nI p ∧ ((M u.2.1).2.1 0).2.1 = nI r ∧ (∀ z, z < 9 → (gn p ≤ z / 3 ∨ gn r ≤ z % 3) → ((M u.2.1).2.1 0).2.2 z = 0) ∧ ∃ (Lt : ax_L) (X : ax_I), (∀ z, z < 9 → Lt 661 z = ((M u.2.1).2.1 0).2.2 z) ∧ (∀ q, q ≠ 661 → q ≠ 662 → Lt q = Le q) ∧ (∀ q, q ≠ 639 → q ≠ 659 → q ≠ 660 → X q = J q) ∧ (∀ j, j ≠ 6 → X 639 j = J 639 j) ∧
        L' = (ax_rtk 639 r gn (gn p) (ax_N1t 639 r 644 (gn r) (gc r) S Lt, true)).1 ∧ ((ax_rtk 639 r gn (gn p) (ax_N1t 639 r 644 (gn r) (gc r) S Lt, true)).2 = false → v = -16 ∧ I' = X) ∧
        ((ax_rtk 639 r gn (gn p) (ax_N1t 639 r 644 (gn r) (gc r) S Lt, true)).2 = true → v = nI 1 ∧ I' = ax_bcl (ax_rtk 639 r gn (gn p) (ax_N1t 639 r 644 (gn r) (gc r) S Lt, true)).1 639 f p gn 9 (ax_u (ax_u (ax_ch 639 c3 X) 640 (84 + 11 * f) (nI p)) 640 (84 + 11 * f + 1) (nI r)))) := by
  have K := k_X11_text_right l D T o 1000 G Ie Le 639 c N f c3 ((M u.2.1).2.1 0).1.toNatClampNeg ((M u.2.1).2.1 0).2.1.toNatClampNeg u e (fun k => (M k).1) (fun f => (S (84 + 11 * f)).toNatClampNeg) (fun f => (S (84 + 11 * f + 1)).toNatClampNeg) gn gc S hMo i640 hsn hsc (rl_N1k hW hsn hsc) hf hc3 hc3' hc hc1 hX hwr hvl hhe hce he hR.m0.1 hR.dp
  generalize hJ : ax_u (ax_TI 639 (ax_nx (Ie (639 + 18)) (c - u.1) u.1) u.2.1 0 u.2.2.1 u.2.2.2 Ie) 639 29 (nI 0) = J at K
  have j1 : ∀ q, q ≠ 639 → q ≠ 658 → J q = Ie q := fun q h1 h2 => by rw [← hJ, ax_u_ne h1, t_TI h1 (by omega)]
  have j2 : ∀ j, j < 29 → J 639 j = Ie 639 j := fun j hj => by rw [← hJ, ax_u_nj (by omega), t_TIm (by omega)]
  have j3 : J 639 29 = nI 0 := by rw [← hJ, ax_u_at]
  have am : ax_amv J 639 u.2.1 e = !(M u.2.1).2.2.1 := t_am hR hS (by rw [j1 _ (by omega) (by omega)]; exact i640) u.2.1 (Nat.le_refl _)
  have dp : ∀ k, k ≤ u.2.1 → (fun k => (M k).1) k = (M k).1 := fun _ _ => rfl
  have gt := fun h1 => t_gt (m := 639) (dp := fun k => (M k).1) hR hS h1 dp u.2.1 0 J (by omega) hR.m0.2.2.1 (fun i hi => by rw [hR.m0.1] at hi; exact absurd hi (Nat.not_lt_zero _))
  have mpc : ax_amv J 639 u.2.1 e = true → ∀ k, k < u.2.1 → e k < 8 → S (84 + 11 * e k) = nI ((fun f => (S (84 + 11 * f)).toNatClampNeg) (e k)) ∧ (fun f => (S (84 + 11 * f)).toNatClampNeg) (e k) < 6 ∧ S (84 + 11 * e k + 1) = nI ((fun f => (S (84 + 11 * f + 1)).toNatClampNeg) (e k)) ∧ (fun f => (S (84 + 11 * f + 1)).toNatClampNeg) (e k) < 6 := fun ha k hk h8 => by
    rw [am, Bool.not_eq_true'] at ha
    have nm1 := (hR.dn (k := k + 1) (by omega)).1 ha
    obtain ⟨-, -, q3, -⟩ := t_st1 (F := F) (T' := T') (B := B) (M := M k) h8
    rw [← hR.ms k hk, nm1] at q3
    have nz : F (e k) ≠ -1 := fun z => by rw [decide_eq_true z, Bool.or_true] at q3; cases q3
    obtain ⟨p, r, p6, r6, s1, s2, -⟩ := (hS (e k) h8).2 nz
    dsimp only
    rw [s1, s2, nI_clamp (by omega), nI_clamp (by omega)]
    exact ⟨rfl, p6, rfl, r6⟩
  have tt := fun (h1 : (M u.2.1).2.2.1 = false) (h2 : (M u.2.1).2.2.2.1 = false) => t_tt (m := 639) (dp := fun k => (M k).1) (mf := fun f => (S (84 + 11 * f)).toNatClampNeg) (mt := fun f => (S (84 + 11 * f + 1)).toNatClampNeg) hR hS (fun g hg => (hsn g hg).2) h1 h2 dp (mpc (by rw [am, h1]; rfl)) u.2.1 0 (ax_gtI J 639 u.2.1 e (fun k => (M k).1) S) Le (by omega) hR.m0.2.2.2 (fun i hi => by rw [hR.m0.1] at hi; exact absurd hi (Nat.not_lt_zero _)) (fun i hi => by rw [hR.m0.1] at hi; exact absurd hi (Nat.not_lt_zero _)) (fun i hi => by rw [hR.m0.1] at hi; exact absurd hi (Nat.not_lt_zero _))
  have gv : (M u.2.1).2.2.1 = false → ax_gtv J 639 u.2.1 e (fun k => (M k).1) S = !(M u.2.1).2.2.2.1 := fun h1 => (gt h1).1
  have tv : (M u.2.1).2.2.1 = false → (M u.2.1).2.2.2.1 = false → ax_ttv (ax_gtI J 639 u.2.1 e (fun k => (M k).1) S) Le 639 u.2.1 e (fun k => (M k).1) (fun f => (S (84 + 11 * f)).toNatClampNeg) (fun f => (S (84 + 11 * f + 1)).toNatClampNeg) gn S = !(M u.2.1).2.2.2.2 := fun h1 h2 => (tt h1 h2).1
  -- the table told
  have top : (M u.2.1).2.2.1 = false → (M u.2.1).2.2.2.1 = false → (M u.2.1).2.2.2.2 = false → ∃ p r, p < 6 ∧ r < 6 ∧ ((M u.2.1).2.1 0).1 = nI p ∧ ((M u.2.1).2.1 0).2.1 = nI r ∧ (∀ z, z < 9 → (gn p ≤ z / 3 ∨ gn r ≤ z % 3) → ((M u.2.1).2.1 0).2.2 z = 0) ∧ (ax_ttI (ax_gtI J 639 u.2.1 e (fun k => (M k).1) S) Le 639 u.2.1 e (fun k => (M k).1) (fun f => (S (84 + 11 * f)).toNatClampNeg) (fun f => (S (84 + 11 * f + 1)).toNatClampNeg) gn S) 659 0 = nI p ∧ (ax_ttI (ax_gtI J 639 u.2.1 e (fun k => (M k).1) S) Le 639 u.2.1 e (fun k => (M k).1) (fun f => (S (84 + 11 * f)).toNatClampNeg) (fun f => (S (84 + 11 * f + 1)).toNatClampNeg) gn S) 660 0 = nI r ∧ ∀ z, z < 9 → (ax_ttL (ax_gtI J 639 u.2.1 e (fun k => (M k).1) S) Le 639 u.2.1 e (fun k => (M k).1) (fun f => (S (84 + 11 * f)).toNatClampNeg) (fun f => (S (84 + 11 * f + 1)).toNatClampNeg) gn S) 661 z = ((M u.2.1).2.1 0).2.2 z := fun h1 h2 h3 => by
    obtain ⟨x1, x2, x3⟩ := (tt h1 h2).2.2 h3
    obtain ⟨p, r, p6, r6, g1, g2, -, g4⟩ := x3 0 (by omega)
    have y := x1 0 (by omega)
    refine ⟨p, r, p6, r6, g1, g2, g4, y.1.trans g1, y.2.trans g2, fun z hz => ?_⟩
    have := x2 0 (by omega) z hz
    rw [show 9 * 0 + z = z by omega] at this
    exact this
  have K2 := K mpc hno (fun ha hg ht => by
    rw [am, Bool.not_eq_true'] at ha
    rw [gv ha, Bool.not_eq_true'] at hg
    rw [tv ha hg, Bool.not_eq_true'] at ht
    obtain ⟨p, r, p6, r6, g1, g2, -, y1, y2, -⟩ := top ha hg ht
    rw [g1, g2, nI_clamp (by omega), nI_clamp (by omega)]
    exact ⟨y1, p6, y2, r6⟩) (by omega)
  clear K
  have frL := fun h1 h2 => (tt h1 h2).2.1
  have gtq : ∀ q, q ≠ 659 → q ≠ 660 → ax_gtI J 639 u.2.1 e (fun k => (M k).1) S q = J q := fun q h1 h2 => ax_gtI_ne (m := 639) h1 h2
  have ttq : ∀ q, q ≠ 659 → q ≠ 660 → ax_ttI (ax_gtI J 639 u.2.1 e (fun k => (M k).1) S) Le 639 u.2.1 e (fun k => (M k).1) (fun f => (S (84 + 11 * f)).toNatClampNeg) (fun f => (S (84 + 11 * f + 1)).toNatClampNeg) gn S q = J q := fun q h1 h2 => (ax_ttI_ne (m := 639) h1 h2).trans (gtq q h1 h2)
  refine ⟨J, _, _, _, j1, j2, j3, K2, fun h1 => ?_, fun h1 h2 => ?_, fun h1 h2 h3 => ?_, fun h1 h2 h3 => ?_⟩
  · rw [h1] at am
    unfold ax_bcv ax_bcI ax_bcL
    rw [am]
    exact ⟨rfl, rfl, rfl⟩
  · rw [h1] at am
    have g := gv h1
    rw [h2] at g
    unfold ax_bcv ax_bcI ax_bcL
    rw [am, g]
    exact ⟨rfl, gtq, rfl⟩
  · rw [h1] at am
    have g := gv h1
    rw [h2] at g
    have t := tv h1 h2
    rw [h3] at t
    unfold ax_bcv ax_bcI ax_bcL
    rw [am, g, t]
    exact ⟨rfl, ttq, frL h1 h2⟩
  · rw [h1] at am
    have g := gv h1
    rw [h2] at g
    have t := tv h1 h2
    rw [h3] at t
    obtain ⟨p, r, p6, r6, g1, g2, g4, -, -, y3⟩ := top h1 h2 h3
    refine ⟨p, r, p6, r6, g1, g2, g4, _, ax_rtI (ax_ttI (ax_gtI J 639 u.2.1 e (fun k => (M k).1) S) Le 639 u.2.1 e (fun k => (M k).1) (fun f => (S (84 + 11 * f)).toNatClampNeg) (fun f => (S (84 + 11 * f + 1)).toNatClampNeg) gn S) 639 r gc, y3, frL h1 h2, fun q q1 q2 q3 => ?_, fun j hj => ?_, ?_, fun hr => ?_, fun hr => ?_⟩
    · unfold ax_rtI; rw [ax_u_ne q1]; exact ttq q q2 q3
    · unfold ax_rtI; rw [ax_u_nj hj]; exact congrFun (ttq 639 (by omega) (by omega)) j
    · rw [g1, g2, nI_clamp (by omega), nI_clamp (by omega)]
      unfold ax_bcL
      rw [am, g, t]; rfl
    · have hr' : ax_rtv (ax_ttL (ax_gtI J 639 u.2.1 e (fun k => (M k).1) S) Le 639 u.2.1 e (fun k => (M k).1) (fun f => (S (84 + 11 * f)).toNatClampNeg) (fun f => (S (84 + 11 * f + 1)).toNatClampNeg) gn S) 639 p r gn gc S = false := hr
      rw [g1, g2, nI_clamp (by omega), nI_clamp (by omega)]
      unfold ax_bcv ax_bcI
      rw [am, g, t, hr']
      exact ⟨rfl, rfl⟩
    · have hr' : ax_rtv (ax_ttL (ax_gtI J 639 u.2.1 e (fun k => (M k).1) S) Le 639 u.2.1 e (fun k => (M k).1) (fun f => (S (84 + 11 * f)).toNatClampNeg) (fun f => (S (84 + 11 * f + 1)).toNatClampNeg) gn S) 639 p r gn gc S = true := hr
      rw [g1, g2, nI_clamp (by omega), nI_clamp (by omega)]
      unfold ax_bcv ax_bcI
      rw [am, g, t, hr']
      exact ⟨rfl, rfl⟩

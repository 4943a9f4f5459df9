/-! ===== text: one, chain and sum, in both: the word ===== -/
/-- what both have read -/
def tQ (F T' : Nat → Int32) (B : Nat → Nat → Int64) (x n δ : Nat) (k : Nat) (cd : Nat → Int32) (S' : ax_ZS) (u : ax_TS) : Prop :=
  S'.1 = u.1 ∧ S'.2.1 = u.2.2.1 ∧ (u.2.2.1 = false → tP F T' B k cd u.2.1 u.2.2.2 ∧ (t_run F T' B u.2.2.2 u.2.1).1 = (t_run F T' B cd k).1 + δ ∧ (∀ i, i + 1 < (t_run F T' B cd k).1 + δ → (t_run F T' B u.2.2.2 u.2.1).2.1 i = (t_run F T' B cd k).2.1 i) ∧ tfl S' (t_run F T' B u.2.2.2 u.2.1) ∧ tc S'.2.2.2.2.2.1 S'.2.2.2.2.2.2 x n ((t_run F T' B u.2.2.2 u.2.1).2.1 ((t_run F T' B cd k).1 + δ - 1)))
/-- the maps, as the class has them -/
def tB (s : Nat) (F T' : Nat → Int32) (B : Nat → Nat → Int64) (S : ax_ZS) : Prop := S.2.2.2.2.2.1 (s + 4) = F ∧ S.2.2.2.2.2.1 (s + 5) = T' ∧ ∀ f z, (S.2.2.2.2.2.1 (s + 6) (9 * f + z)).toInt64 = B f z
theorem tB.fr {s r b : Nat} {F T' : Nat → Int32} {B : Nat → Nat → Int64} {S S' : ax_ZS} (h : tB s F T' B S) (hs : s + 14 ≤ r) (hb : 1 ≤ b) (hf : ∀ q, tf r b q → S'.2.2.2.2.2.1 q = S.2.2.2.2.2.1 q) : tB s F T' B S' := by
  have g : ∀ q, q < r → S'.2.2.2.2.2.1 q = S.2.2.2.2.2.1 q := fun q hq => hf q (by unfold tf; omega)
  unfold tB at *
  rw [g _ (by omega), g _ (by omega), g _ (by omega)]; exact h
/-- one -/
theorem t_one {r c s e n : Nat} {W T F T' : Nat → Int32} {B : Nat → Nat → Int64} (hs : s + 14 ≤ r) (he : e ≤ 4) (hT : tT W T c)
    (hsub : e < 4 → ∀ (h k : Nat) (cd : Nat → Int32) (u : ax_TS) (S : ax_ZS), h ≤ c → ax_tx T c n 3 (e + 1) (h, k, false, cd) = some u → S.1 = h → S.2.1 = false → tB s F T' B S → tfl S (t_run F T' B cd k) → (t_run F T' B cd k).1 ≤ 2 * (e + 1) → tQ F T' B (r + (5 + 9 * (e + 1))) (r + (6 + 9 * (e + 1))) 1 k cd (tZ r c s W (e + 1) S) u)
    {h k : Nat} {cd : Nat → Int32} {u : ax_TS} {S : ax_ZS} (hh : h ≤ c) (hx : ax_tx T c (n + 1) 0 e (h, k, false, cd) = some u) (hS : S.1 = h) (hfa : S.2.1 = false) (hB : tB s F T' B S) (hfl : tfl S (t_run F T' B cd k)) (hd : (t_run F T' B cd k).1 ≤ 2 * e + 2) : tQ F T' B (r + (11 + 9 * e)) (r + (12 + 9 * e)) 1 k cd (tO r c s W e S) u := by
  obtain ⟨p, fa, nm, nf, tg, I, L⟩ := S
  dsimp only at hS hfa
  subst hS hfa
  obtain ⟨n0, hn0, v0, w0, z0⟩ := t_v hT (ax_nx T (c - p) p)
  have hle := ax_nx_le T (c - p) p
  have nW : ∀ q, q ≤ c → ax_nx W (c - q) q = ax_nx T (c - q) q := fun q hq => t_nx hT (c - q) q (by omega)
  -- the number
  have t1 : ax_1t T c p = decide (48 ≤ n0 ∧ n0 ≤ 57) := by
    show ax_in3 (ax_vl T c (ax_nx T (c - p) p) - nI 48).toInt64 0 9 = _
    rw [w0]; exact (t_in3s n0 hn0).1
  have hb : ∃ b p1, t_nb b n0 (ax_nx W (c - p) p) p1 ∧ p1 ≤ c ∧ b = decide (48 ≤ n0 ∧ n0 ≤ 57) ∧ p1 = ax_nx T (c - p) p + (if 48 ≤ n0 ∧ n0 ≤ 57 then 1 else 0) := by
    rw [nW p hh]
    by_cases c1 : 48 ≤ n0 ∧ n0 ≤ 57
    · have : ax_nx T (c - p) p < c := by
        apply Classical.byContradiction
        intro q; have := z0.mpr (by omega); omega
      exact ⟨true, ax_nx T (c - p) p + 1, Or.inr ⟨rfl, c1.1, c1.2, rfl⟩, by omega, (decide_eq_true c1).symm, by rw [if_pos c1]⟩
    · exact ⟨false, ax_nx T (c - p) p, Or.inl ⟨rfl, c1, rfl⟩, by omega, (decide_eq_false c1).symm, by rw [if_neg c1]; rfl⟩
  obtain ⟨b, p1, hb, hp1, eb, ep1⟩ := hb
  obtain ⟨n2, hn2, v2, w2, z2⟩ := t_v hT (ax_nx T (c - p1) p1)
  have hle2 := ax_nx_le T (c - p1) p1
  rw [← nW p hh] at v0
  rw [← nW p1 hp1] at v2
  have er : ax_tx T c (n + 1) 0 e (p, k, false, cd) = bif b then (ax_1b T c e (ax_tx T c n 3 (e + 1)) p1 (k, false, cd)).map (ax_lay (nI 20 + ax_1m T c p)) else ax_1b T c e (ax_tx T c n 3 (e + 1)) p1 (k, false, cd) := by
    show (bif ax_1t T c p then (ax_1b T c e (ax_tx T c n 3 (e + 1)) (ax_nx T (c - p) p + 1) (k, false, cd)).map (ax_lay (nI 20 + ax_1m T c p)) else ax_1b T c e (ax_tx T c n 3 (e + 1)) (ax_nx T (c - p) p + 0) (k, false, cd)) = _
    rw [t1, ← eb, ep1]
    by_cases c1 : 48 ≤ n0 ∧ n0 ≤ 57
    · rw [if_pos c1, eb, decide_eq_true c1]; rfl
    · rw [if_neg c1, eb, decide_eq_false c1]; rfl
  obtain ⟨r1, r2, r3⟩ := t_1b (W := W) (e := e) (k := k) (cd := cd) (sub := ax_tx T c n 3 (e + 1)) hp1 hn2 w2
  have eO : tO r c s W e (p, false, nm, nf, tg, I, L) = (ax_on_p I L r c p e W false nm nf tg (if e < 4 then tZ r c s W (e + 1) else id), ax_on_fa I L r c p e W false nm nf tg (if e < 4 then tZ r c s W (e + 1) else id), ax_on_nm I L r c p s e W false nm nf tg (if e < 4 then tZ r c s W (e + 1) else id), ax_on_nf I L r c p e W false nm nf tg (if e < 4 then tZ r c s W (e + 1) else id), ax_on_tg I L r c p s e W false nm nf tg (if e < 4 then tZ r c s W (e + 1) else id), ax_onI I L r c p s e W false nm nf tg (if e < 4 then tZ r c s W (e + 1) else id), ax_onL I L r c p s e W false nm nf tg (if e < 4 then tZ r c s W (e + 1) else id)) := rfl
  obtain ⟨f1, f2, f3⟩ := hfl
  dsimp only at f1 f2 f3
  obtain ⟨B1, B2, B3⟩ := hB
  dsimp only at B1 B2 B3
  -- a number is laid behind what was read
  have num : ∀ (u0 : ax_TS) (E : tE), u0.2.2.1 = false → tP F T' B k cd u0.2.1 u0.2.2.2 → (t_run F T' B u0.2.2.2 u0.2.1).1 = (t_run F T' B cd k).1 + 1 → b = true → tP F T' B k cd (ax_lay (nI 20 + ax_1m T c p) u0).2.1 (ax_lay (nI 20 + ax_1m T c p) u0).2.2.2 ∧ (ax_lay (nI 20 + ax_1m T c p) u0).1 = u0.1 ∧ (ax_lay (nI 20 + ax_1m T c p) u0).2.2.1 = false ∧ t_run F T' B (ax_lay (nI 20 + ax_1m T c p) u0).2.2.2 (ax_lay (nI 20 + ax_1m T c p) u0).2.1 = ((t_run F T' B cd k).1 + 1, t_up (t_run F T' B u0.2.2.2 u0.2.1).2.1 (t_run F T' B cd k).1 (((t_run F T' B u0.2.2.2 u0.2.1).2.1 (t_run F T' B cd k).1).1, ((t_run F T' B u0.2.2.2 u0.2.1).2.1 (t_run F T' B cd k).1).2.1, t_w (fun z => ((t_run F T' B u0.2.2.2 u0.2.1).2.1 (t_run F T' B cd k).1).2.2 z * lN (n0 - 48))), (t_run F T' B u0.2.2.2 u0.2.1).2.2.1, (t_run F T' B u0.2.2.2 u0.2.1).2.2.2.1, (t_run F T' B u0.2.2.2 u0.2.1).2.2.2.2 || !t_in (fun z => ((t_run F T' B u0.2.2.2 u0.2.1).2.1 (t_run F T' B cd k).1).2.2 z * lN (n0 - 48))) := fun u0 E hw hP hdd hbt => by
    obtain ⟨h0, k0, w, cd0⟩ := u0
    dsimp only at hw hP hdd ⊢
    subst hw
    rw [hbt] at eb
    have c1 := of_decide_eq_true eb.symm
    have dg := (t_dig n0 (by omega) c1.1).1
    have em : nI 20 + ax_1m T c p = nI (n0 - 28) := by
      show nI 20 + (ax_vl T c (ax_nx T (c - p) p) - nI 48) = _
      rw [w0]; exact dg
    rw [em]
    obtain ⟨l1, l2⟩ := t_layc (F := F) (T := T') (B := B) (k := k0) (x := n0 - 28) (cd := cd0) (by omega) ⟨by omega, Or.inr (Or.inl ⟨by omega, by omega, by omega⟩)⟩
    refine ⟨hP.trans l1, rfl, rfl, ?_⟩
    show t_run F T' B (ax_cdu cd0 k0 (nI (n0 - 28))) (k0 + 1) = _
    rw [l2]
    unfold t_st t_op
    rw [if_neg (by omega), if_pos (by omega), if_pos (by omega), hdd, show (t_run F T' B cd k).1 + 1 - 1 = (t_run F T' B cd k).1 by omega, show n0 - 28 - 20 = n0 - 48 by omega]
  by_cases cm : 97 ≤ n2 ∧ n2 ≤ 104
  · -- a map
    generalize (if e < 4 then tZ r c s W (e + 1) else id) = sub at eO
    obtain ⟨o1, o2, o3, o4, o5, o6⟩ := on_map (I := I) (L := L) (e := e) (fa := false) (nm := nm) (nf := nf) (tg := tg) (sub := sub) hs hn0 v0 hb hn2 v2 cm
    rw [r1 cm] at er
    rw [nW p1 hp1] at o1
    rw [B1] at o3 o6
    rw [B2] at o6
    simp only [B3] at o5 o6
    obtain ⟨l1, l2⟩ := t_layc (F := F) (T := T') (B := B) (k := k) (x := n2 - 97) (cd := cd) (by omega) ⟨by omega, Or.inl ⟨by omega, by omega⟩⟩
    have l3 : t_st F T' B (n2 - 97) (t_run F T' B cd k) = ((t_run F T' B cd k).1 + 1, t_up (t_run F T' B cd k).2.1 (t_run F T' B cd k).1 (F (n2 - 97), T' (n2 - 97), B (n2 - 97)), (t_run F T' B cd k).2.2.1 || decide (F (n2 - 97) = -1), (t_run F T' B cd k).2.2.2.1, (t_run F T' B cd k).2.2.2.2) := by unfold t_st; rw [if_pos (by omega)]
    rw [l3] at l2
    cases hbb : b with
    | false =>
      rw [hbb] at er o5 o6
      have eu : u = (ax_nx T (c - p1) p1 + 1, k + 1, false, ax_cdu cd k (nI (n2 - 97))) := (Option.some.inj (hx.symm.trans er))
      subst eu
      rw [eO]
      refine ⟨o1, o2, fun _ => ⟨l1, ?_, fun i hi => ?_, ?_, ?_⟩⟩
      · dsimp only; rw [l2]
      · dsimp only; rw [l2]; show t_up _ _ _ i = _; unfold t_up; rw [if_neg (by omega)]
      · dsimp only; rw [l2]; exact ⟨o3.trans (by rw [f1]), o4.trans f2, (o5.trans (if_neg (by decide))).trans f3⟩
      · dsimp only; rw [l2]
        show tc _ _ _ _ (t_up _ _ _ ((t_run F T' B cd k).1 + 1 - 1))
        unfold t_up
        rw [if_pos (by omega)]
        rw [if_neg (by decide)] at o6
        exact o6
    | true =>
      rw [hbb] at er o5 o6
      have eu : u = ax_lay (nI 20 + ax_1m T c p) (ax_nx T (c - p1) p1 + 1, k + 1, false, ax_cdu cd k (nI (n2 - 97))) := (Option.some.inj (hx.symm.trans er))
      obtain ⟨g1, g2, g3, g4⟩ := num (ax_nx T (c - p1) p1 + 1, k + 1, false, ax_cdu cd k (nI (n2 - 97))) (0, 0, fun _ => 0) rfl l1 (by dsimp only; rw [l2]) hbb
      rw [← eu] at g1 g2 g3 g4
      dsimp only at g4
      rw [l2] at g4
      have top : t_up (t_run F T' B cd k).2.1 (t_run F T' B cd k).1 (F (n2 - 97), T' (n2 - 97), B (n2 - 97)) (t_run F T' B cd k).1 = (F (n2 - 97), T' (n2 - 97), B (n2 - 97)) := if_pos rfl
      dsimp only at g4
      rw [top] at g4
      rw [eO]
      refine ⟨o1.trans g2.symm, o2.trans g3.symm, fun _ => ⟨g1, ?_, fun i hi => ?_, ?_, ?_⟩⟩
      · rw [g4]
      · rw [g4]; show t_up (t_up _ _ _) _ _ i = _; unfold t_up; rw [if_neg (by omega), if_neg (by omega)]
      · rw [g4]
        refine ⟨o3.trans (by rw [f1]), o4.trans f2, ?_⟩
        rw [if_pos rfl] at o5
        rw [← f3]; exact o5
      · rw [g4]
        show tc _ _ _ _ (t_up _ _ _ ((t_run F T' B cd k).1 + 1 - 1))
        unfold t_up
        rw [if_pos (by omega)]
        rw [if_pos rfl] at o6
        exact o6
  by_cases cbr : n2 = 40 ∧ e < 4
  · -- brackets
    obtain ⟨n40, he4⟩ := cbr
    subst n40
    obtain ⟨I2, i1, i2⟩ := on_br (n2 := 0) (I := I) (L := L) (r := r) (s := s) (fa := false) (nm := nm) (nf := nf) (tg := tg) (sub := if e < 4 then tZ r c s W (e + 1) else id) hn0 v0 hb v2 he4
    rw [r2 rfl he4] at er
    rw [nW p1 hp1] at i2
    have hlt : ax_nx T (c - p1) p1 < c := by
      apply Classical.byContradiction
      intro q; have := z2.mpr (by omega); omega
    rw [if_pos he4] at i2 eO
    cases hsx : ax_tx T c n 3 (e + 1) (ax_nx T (c - p1) p1 + 1, k, false, cd) with
    | none =>
      rw [hsx] at er
      rw [hx] at er
      cases hbb : b <;> rw [hbb] at er <;> cases er
    | some u1 =>
      rw [hsx] at er
      have Q := hsub he4 (ax_nx T (c - p1) p1 + 1) k cd u1 (ax_nx T (c - p1) p1 + 1, false, nm, nf, tg, I2, L) (by omega) hsx rfl rfl ⟨(i1 _ (by omega)).trans B1, (i1 _ (by omega)).trans B2, fun f z => by dsimp only; rw [i1 _ (by omega)]; exact B3 f z⟩ ⟨f1, f2, f3⟩ (by omega)
      obtain ⟨j1, j2, j3, j4, j5, j6⟩ := i2 _ rfl
      rw [eO]
      generalize tZ r c s W (e + 1) (ax_nx T (c - p1) p1 + 1, false, nm, nf, tg, I2, L) = S2 at *
      obtain ⟨q1, q2, q3⟩ := Q
      obtain ⟨h1, k1, w1, cd1⟩ := u1
      dsimp only at q1 q2 q3
      have gr : h1 ≤ c := (ax_tx_gr (s := (ax_nx T (c - p1) p1 + 1, k, false, cd)) (show ax_nx T (c - p1) p1 + 1 ≤ c by omega) hsx).2.1
      cases w1 with
      | true =>
        -- wrong inside
        have eu : u = (h1, k1, true, cd1) := by
          have e1 : (some u : Option ax_TS) = some (h1, k1, true, cd1) := by
            rw [← hx, er]
            cases hbb : b <;> rfl
          exact Option.some.inj e1
        subst eu
        refine ⟨?_, ?_, fun hw => by cases hw⟩
        · show ax_on_p I L r c p e W false nm nf tg (tZ r c s W (e + 1)) = h1
          rw [j1, if_pos q2]; exact q1
        · show ax_on_fa I L r c p e W false nm nf tg (tZ r c s W (e + 1)) = true
          rw [j2, if_pos q2]
      | false =>
        obtain ⟨q4, q5, q6, q7, q8⟩ := q3 rfl
        have nf2 : ¬ S2.2.1 = true := by rw [q2]; decide
        rw [if_neg nf2, q1] at j1
        rw [if_neg nf2, q1] at j2
        obtain ⟨n3, hn3, v3, w3, z3⟩ := t_v hT (ax_nx T (c - h1) h1)
        have ek := t_eqs n3 hn3 41 (by omega)
        have tkT : ax_tk T c h1 false (nI 41) = decide (n3 = 41) := by
          rw [t_tk, w3]
          by_cases cc : n3 = 41
          · rw [decide_eq_true cc, decide_eq_true (ek.2.mpr cc)]
          · rw [decide_eq_false cc, decide_eq_false (fun h => cc (ek.2.mp h))]
        have tkW : ax_tk W c h1 false (nI 41) = decide (n3 = 41) := by
          rw [t_tk, nW h1 gr, v3]
          by_cases cc : n3 = 41
          · rw [decide_eq_true cc, decide_eq_true (ek.1.mpr cc)]
          · rw [decide_eq_false cc, decide_eq_false (fun h => cc (ek.1.mp h))]
        have tkh : ax_tkh W c h1 false (nI 41) = ax_tkh T c h1 false (nI 41) := by
          unfold ax_tkh; rw [tkW, tkT, nW h1 gr]
        rw [tkh] at j1
        rw [tkW] at j2
        have e0 : u = bif b then ax_lay (nI 20 + ax_1m T c p) (ax_tkh T c h1 false (nI 41), k1, !decide (n3 = 41), cd1) else (ax_tkh T c h1 false (nI 41), k1, !decide (n3 = 41), cd1) := by
          have e1 : (some u : Option ax_TS) = some (bif b then ax_lay (nI 20 + ax_1m T c p) (ax_tkh T c h1 false (nI 41), k1, !decide (n3 = 41), cd1) else (ax_tkh T c h1 false (nI 41), k1, !decide (n3 = 41), cd1)) := by
            rw [← hx, er, ← tkT]
            cases hbb : b <;> rfl
          exact Option.some.inj e1
        by_cases c41 : n3 = 41
        · rw [decide_eq_true c41] at e0 j2
          rw [if_pos rfl] at j2
          cases hbb : b with
          | false =>
            rw [hbb] at e0 j5 j6
            have eu : u = (ax_tkh T c h1 false (nI 41), k1, false, cd1) := e0
            subst eu
            refine ⟨j1, j2, fun _ => ⟨q4, q5, q6, ⟨j3.trans q7.1, j4.trans q7.2.1, (j5.trans (if_neg (by decide))).trans q7.2.2⟩, ?_⟩⟩
            rw [if_neg (by decide)] at j6
            refine ⟨j6.1.trans q8.1, j6.2.1.trans q8.2.1, fun z hz => (j6.2.2 z hz).trans (q8.2.2 z hz)⟩
          | true =>
            rw [hbb] at e0 j5 j6
            have eu : u = ax_lay (nI 20 + ax_1m T c p) (ax_tkh T c h1 false (nI 41), k1, false, cd1) := e0
            obtain ⟨g1, g2, g3, g4⟩ := num (ax_tkh T c h1 false (nI 41), k1, false, cd1) (0, 0, fun _ => 0) rfl q4 q5 hbb
            rw [← eu] at g1 g2 g3 g4
            dsimp only at g2 g4
            rw [if_pos rfl] at j5 j6
            have q8' : tc S2.2.2.2.2.2.1 S2.2.2.2.2.2.2 (r + (5 + 9 * (e + 1))) (r + (6 + 9 * (e + 1))) ((t_run F T' B cd1 k1).2.1 (t_run F T' B cd k).1) := by
              rw [show (t_run F T' B cd k).1 + 1 - 1 = (t_run F T' B cd k).1 by omega] at q8; exact q8
            have inn : t_in (fun z => S2.2.2.2.2.2.2 (r + (6 + 9 * (e + 1))) z * lN (n0 - 48)) = t_in (fun z => ((t_run F T' B cd1 k1).2.1 (t_run F T' B cd k).1).2.2 z * lN (n0 - 48)) := t_in_cg (fun z hz => by rw [q8'.2.2 z hz])
            refine ⟨j1.trans g2.symm, j2.trans g3.symm, fun _ => ⟨g1, ?_, fun i hi => ?_, ?_, ?_⟩⟩
            · rw [g4]
            · rw [g4]; show t_up _ _ _ i = _; unfold t_up; rw [if_neg (by omega)]; exact q6 i hi
            · rw [g4]
              refine ⟨j3.trans q7.1, j4.trans q7.2.1, ?_⟩
              show ax_on_tg I L r c p s e W false nm nf tg (tZ r c s W (e + 1)) = _
              rw [j5, inn, q7.2.2]
            · rw [g4]
              show tc _ _ _ _ (t_up _ _ _ ((t_run F T' B cd k).1 + 1 - 1))
              unfold t_up
              rw [if_pos (by omega)]
              refine ⟨j6.1.trans q8'.1, j6.2.1.trans q8'.2.1, fun z hz => (j6.2.2 z hz).trans ?_⟩
              exact t_w_cg (fun z hz => by rw [q8'.2.2 z hz]) z hz
        · rw [decide_eq_false c41] at e0 j2
          rw [if_neg (by decide)] at j2
          have w : u.1 = ax_tkh T c h1 false (nI 41) ∧ u.2.2.1 = true := by
            rw [e0]; cases hbb : b <;> exact ⟨rfl, rfl⟩
          exact ⟨j1.trans w.1.symm, j2.trans w.2.symm, fun hw => absurd (hw.symm.trans w.2) (by decide)⟩
  · -- nothing that can be read
    have h4 : n2 = 40 → 4 ≤ e := fun h => by
      apply Classical.byContradiction
      intro q; exact cbr ⟨h, by omega⟩
    generalize (if e < 4 then tZ r c s W (e + 1) else id) = sub at eO
    obtain ⟨o1, o2⟩ := on_flt (I := I) (L := L) (r := r) (fa := false) (nm := nm) (nf := nf) (tg := tg) (sub := sub) hn0 v0 hb hn2 v2 cm h4
    rw [r3 cm h4] at er
    rw [nW p1 hp1] at o1
    have w : u.1 = ax_nx T (c - p1) p1 ∧ u.2.2.1 = true := by
      have e1 : (some u : Option ax_TS) = some (bif b then ax_lay (nI 20 + ax_1m T c p) (ax_nx T (c - p1) p1, k, true, cd) else (ax_nx T (c - p1) p1, k, true, cd)) := by
        rw [← hx, er]
        cases hbb : b <;> rfl
      have e2 := Option.some.inj e1
      rw [e2]; cases hbb : b <;> exact ⟨rfl, rfl⟩
    rw [eO]
    exact ⟨o1.trans w.1.symm, o2.trans w.2.symm, fun hw => absurd (hw.symm.trans w.2) (by decide)⟩

/-! ===== text: tellsTable by the machine ===== -/
theorem t_neg {f : Nat → Int64} (h : t_in f = true) : t_in (fun z => f z * (-1)) = true := by
  rw [t_in3] at h ⊢
  intro z hz
  have h1 := h z hz
  have key : ∀ x : Int64, ax_in3 x (-1000000000) 1000000000 = true → ax_in3 (x * (-1)) (-1000000000) 1000000000 = true := fun x hx => by
    rw [Int64.mul_neg, Int64.mul_one]
    rw [t_i3, decide_eq_true_eq] at hx ⊢
    rw [Int64.lt_iff_toInt_lt, Int64.le_iff_toInt_le] at hx ⊢
    have e1 : (-1000000000 : Int64).toInt = -1000000000 := by decide
    have e2 : (1000000000 : Int64).toInt = 1000000000 := by decide
    rw [e1, e2] at hx ⊢
    have e3 : (-x).toInt = -x.toInt := by
      rw [Int64.toInt_neg]
      exact Int.bmod_eq_of_le (by omega) (by omega)
    rw [e3]; omega
  exact key _ h1
def tG (gn : Nat → Nat) (E : tE) : Prop := ∃ p r, p < 6 ∧ r < 6 ∧ E.1 = nI p ∧ E.2.1 = nI r ∧ t_in E.2.2 = true ∧ ∀ z, z < 9 → (gn p ≤ z / 3 ∨ gn r ≤ z % 3) → E.2.2 z = 0
def tL (L : ax_L) (m : Nat) (M : tM) : Prop := ∀ i, i < M.1 → ∀ z, z < 9 → L (m + 22) (9 * i + z) = (M.2.1 i).2.2 z
def tGs (gn : Nat → Nat) (M : tM) : Prop := ∀ i, i < M.1 → tG gn (M.2.1 i)
theorem t_st1 {F T' : Nat → Int32} {B : Nat → Nat → Int64} {x : Nat} {M : tM} (c : x < 8) : (t_st F T' B x M).1 = M.1 + 1 ∧ (t_st F T' B x M).2.1 = t_up M.2.1 M.1 (F x, T' x, B x) ∧ (t_st F T' B x M).2.2.1 = (M.2.2.1 || decide (F x = -1)) ∧ (t_st F T' B x M).2.2.2.2 = M.2.2.2.2 := by
  obtain ⟨d, st, nm, nf, tg⟩ := M
  unfold t_st
  rw [if_pos c]
  exact ⟨rfl, rfl, rfl, rfl⟩
theorem t_st2 {F T' : Nat → Int32} {B : Nat → Nat → Int64} {x : Nat} {M : tM} (c : 8 ≤ x) (c2 : x < 40) : (t_st F T' B x M).1 = M.1 ∧ (t_st F T' B x M).2.1 = t_up M.2.1 (M.1 - 1) ((M.2.1 (M.1 - 1)).1, (M.2.1 (M.1 - 1)).2.1, t_w (fun z => (M.2.1 (M.1 - 1)).2.2 z * lN (x - 20))) ∧ (t_st F T' B x M).2.2.2.2 = (M.2.2.2.2 || !t_in (fun z => (M.2.1 (M.1 - 1)).2.2 z * lN (x - 20))) := by
  obtain ⟨d, st, nm, nf, tg⟩ := M
  unfold t_st t_op
  rw [if_neg (by omega), if_pos c2, if_pos c2]
  exact ⟨rfl, rfl, rfl⟩
theorem t_st3 {F T' : Nat → Int32} {B : Nat → Nat → Int64} {M : tM} : (t_st F T' B 40 M).1 = M.1 - 1 ∧ (t_st F T' B 40 M).2.1 = t_up M.2.1 (M.1 - 2) ((M.2.1 (M.1 - 2)).1, (M.2.1 (M.1 - 1)).2.1, t_w (t_mul (M.2.1 (M.1 - 2)).2.2 (M.2.1 (M.1 - 1)).2.2)) ∧ (t_st F T' B 40 M).2.2.2.1 = (M.2.2.2.1 || !decide ((M.2.1 (M.1 - 1)).1 = (M.2.1 (M.1 - 2)).2.1)) ∧ (t_st F T' B 40 M).2.2.2.2 = (M.2.2.2.2 || !t_in (t_mul (M.2.1 (M.1 - 2)).2.2 (M.2.1 (M.1 - 1)).2.2)) := by
  obtain ⟨d, st, nm, nf, tg⟩ := M
  unfold t_st t_op
  rw [if_neg (by omega), if_neg (by omega), if_pos rfl, if_neg (by omega), if_pos rfl]
  exact ⟨rfl, rfl, rfl, rfl⟩
theorem t_st4 {F T' : Nat → Int32} {B : Nat → Nat → Int64} {x : Nat} {M : tM} (c : 40 < x) (c2 : x < 43) : (t_st F T' B x M).1 = M.1 - 1 ∧ (t_st F T' B x M).2.1 = t_up M.2.1 (M.1 - 2) ((M.2.1 (M.1 - 2)).1, (M.2.1 (M.1 - 2)).2.1, t_w (t_op x (M.2.1 (M.1 - 2)).2.2 (M.2.1 (M.1 - 1)).2.2)) ∧ (t_st F T' B x M).2.2.2.1 = (M.2.2.2.1 || !(decide ((M.2.1 (M.1 - 1)).1 = (M.2.1 (M.1 - 2)).1) && decide ((M.2.1 (M.1 - 1)).2.1 = (M.2.1 (M.1 - 2)).2.1))) ∧ (t_st F T' B x M).2.2.2.2 = (M.2.2.2.2 || !t_in (t_op x (M.2.1 (M.1 - 2)).2.2 (M.2.1 (M.1 - 1)).2.2)) := by
  obtain ⟨d, st, nm, nf, tg⟩ := M
  unfold t_st
  rw [if_neg (by omega), if_neg (by omega), if_neg (by omega), if_pos c2]
  exact ⟨rfl, rfl, rfl, rfl⟩
theorem t_wt {t : Nat → Int64} (h : t_in t = true) : t_w t = t := if_pos h
/-- a new entry on the pile, and what lies below -/
theorem t_tls {L L' : ax_L} {m d z0 : Nat} {M N : tM} {a b : Int32} {f t : Nat → Int64} (hL : tL L m M) (h1 : N.1 = d) (h2 : N.2.1 = t_up M.2.1 z0 (a, b, f)) (hd : d = z0 + 1) (hM : z0 ≤ M.1) (hE : ∀ z, z < 9 → L' (m + 22) (9 * z0 + z) = t z) (ht : ∀ z, z < 9 → t z = f z) (hf : ∀ z, z < 9 * z0 → L' (m + 22) z = L (m + 22) z) : tL L' m N := fun i hi z hz => by
  rw [h1] at hi
  rw [h2]
  by_cases ei : i = z0
  · subst ei; rw [t_up_at, hE z hz, ht z hz]
  · rw [t_up_ne ei, hf _ (by omega)]; exact hL i (by omega) z hz
theorem t_gss {gn : Nat → Nat} {d z0 : Nat} {M N : tM} {a b : Int32} {f : Nat → Int64} (hG : tGs gn M) (h1 : N.1 = d) (h2 : N.2.1 = t_up M.2.1 z0 (a, b, f)) (hd : d = z0 + 1) (hM : z0 ≤ M.1) (hE : ∃ p r, p < 6 ∧ r < 6 ∧ a = nI p ∧ b = nI r ∧ t_in f = true ∧ ∀ z, z < 9 → (gn p ≤ z / 3 ∨ gn r ≤ z % 3) → f z = 0) : tGs gn N := fun i hi => by
  rw [h1] at hi
  rw [h2]
  by_cases ei : i = z0
  · subst ei; rw [t_up_at]; exact hE
  · rw [t_up_ne ei]; exact hG i (by omega)
theorem t_tjs {J J' : ax_I} {m d z0 : Nat} {M N : tM} {a b : Int32} {f : Nat → Int64} (hJ : tJ J m M) (h1 : N.1 = d) (h2 : N.2.1 = t_up M.2.1 z0 (a, b, f)) (hd : d = z0 + 1) (hM : z0 ≤ M.1) (hE : J' (m + 20) z0 = a ∧ J' (m + 21) z0 = b) (hf : ∀ i, i < z0 → J' (m + 20) i = J (m + 20) i ∧ J' (m + 21) i = J (m + 21) i) : tJ J' m N := fun i hi => by
  rw [h1] at hi
  rw [h2]
  by_cases ei : i = z0
  · subst ei; rw [t_up_at]; exact hE
  · rw [t_up_ne ei, (hf i (by omega)).1, (hf i (by omega)).2]; exact hJ i (by omega)
set_option maxHeartbeats 4000000 in
theorem t_tt {S F T' : Nat → Int32} {B : Nat → Nat → Int64} {e gn dp mf mt : Nat → Nat} {M : Nat → tM} {kc m : Nat} (h : tR F T' B e M kc) (hS : tS S gn F T' B) (hgn : ∀ g, g < 6 → gn g ≤ 3) (hnm : (M kc).2.2.1 = false) (hnf : (M kc).2.2.2.1 = false) (hdp : ∀ k, k ≤ kc → dp k = (M k).1) (hmf : ∀ k, k < kc → e k < 8 → S (84 + 11 * e k) = nI (mf (e k)) ∧ mf (e k) < 6 ∧ S (84 + 11 * e k + 1) = nI (mt (e k)) ∧ mt (e k) < 6) : ∀ n k (J : ax_I) (L : ax_L), k + n = kc → (M k).2.2.2.2 = false → tJ J m (M k) → tL L m (M k) → tGs gn (M k) →
    (ax_ttk m e dp mf mt gn S n k (J, L)).1 = !(M kc).2.2.2.2 ∧ (∀ q, q ≠ m + 22 → q ≠ m + 23 → (ax_ttk m e dp mf mt gn S n k (J, L)).2.2 q = L q) ∧ ((M kc).2.2.2.2 = false → tJ (ax_ttk m e dp mf mt gn S n k (J, L)).2.1 m (M kc) ∧ tL (ax_ttk m e dp mf mt gn S n k (J, L)).2.2 m (M kc) ∧ tGs gn (M kc)) := by
  intro n
  induction n with
  | zero =>
    intro k J L hk hf hJ hL hG
    have : k = kc := by omega
    subst this
    exact ⟨by rw [hf]; rfl, fun _ _ _ => rfl, fun _ => ⟨hJ, hL, hG⟩⟩
  | succ n ih =>
    intro k J L hk hf hJ hL hG
    have hk' : k < kc := by omega
    have d := hdp k (by omega)
    have ms := h.ms k hk'
    obtain ⟨o1, o0, o2⟩ := h.ok k hk'
    have wrong : (M (k + 1)).2.2.2.2 = true → (M kc).2.2.2.2 = true := fun q => (h.up (kc - (k + 1)) (k + 1) (by omega)).2.2 q
    have nf1 := (h.dn (k := k + 1) (by omega)).2.1 hnf
    have nm1 := (h.dn (k := k + 1) (by omega)).1 hnm
    -- nothing too great: go on; else it ends
    have go : ∀ (v : Bool) (J' : ax_I) (L' : ax_L) (t : Nat → Int64), v = t_in t → (M (k + 1)).2.2.2.2 = ((M k).2.2.2.2 || !t_in t) → (∀ q, q ≠ m + 22 → q ≠ m + 23 → L' q = L q) → (t_in t = true → tJ J' m (M (k + 1)) ∧ tL L' m (M (k + 1)) ∧ tGs gn (M (k + 1))) → ∀ R, R = (if v = true then ax_ttk m e dp mf mt gn S n (k + 1) (J', L') else (false, J, L')) → R.1 = !(M kc).2.2.2.2 ∧ (∀ q, q ≠ m + 22 → q ≠ m + 23 → R.2.2 q = L q) ∧ ((M kc).2.2.2.2 = false → tJ R.2.1 m (M kc) ∧ tL R.2.2 m (M kc) ∧ tGs gn (M kc)) := fun v J' L' t hv htg hfr hin R hR => by
      rw [hf, Bool.false_or] at htg
      cases hti : t_in t with
      | true =>
        rw [hti] at hv htg
        rw [hv, if_pos rfl] at hR
        obtain ⟨x1, x2, x3⟩ := hin hti
        obtain ⟨y1, y2, y3⟩ := ih (k + 1) J' L' (by omega) htg x1 x2 x3
        rw [hR]
        exact ⟨y1, fun q h1 h2 => (y2 q h1 h2).trans (hfr q h1 h2), y3⟩
      | false =>
        rw [hti] at hv htg
        rw [hv, if_neg (by decide)] at hR
        have w := wrong htg
        rw [hR, w]
        exact ⟨rfl, hfr, fun z => by cases z⟩
    rcases (show e k < 8 ∨ (8 ≤ e k ∧ e k < 40) ∨ e k = 40 ∨ (40 < e k ∧ e k < 43) ∨ 43 ≤ e k by omega) with c | ⟨c, c2⟩ | c | ⟨c, c2⟩ | c
    · -- a map
      have es : ax_ttk m e dp mf mt gn S (n + 1) k (J, L) = ax_ttk m e dp mf mt gn S n (k + 1) (ax_u (ax_u J (m + 20) (dp k) (nI (mf (e k)))) (m + 21) (dp k) (nI (mt (e k))), ax_tt9 m e dp mf mt gn S k 9 L) := by
        simp only [ax_ttk]; rw [if_neg (by omega)]
      obtain ⟨q1, q2, q3, q5⟩ := t_st1 (F := F) (T' := T') (B := B) (M := M k) c
      rw [← ms] at q1 q2 q3 q5
      have nz : F (e k) ≠ -1 := fun z => by
        rw [q3, decide_eq_true z, Bool.or_true] at nm1; cases nm1
      obtain ⟨p, r, p6, r6, s1, s2, s3, s4, s5, s6, s7⟩ := (hS (e k) c).2 nz
      obtain ⟨f1, f2, f3, f4⟩ := hmf k hk' c
      have ep : mf (e k) = p := (nI_eq (by omega) (by omega)).mp (f1.symm.trans s1)
      have er : mt (e k) = r := (nI_eq (by omega) (by omega)).mp (f3.symm.trans s2)
      obtain ⟨t1, t2, t3⟩ := t_tt9 (m := m) (k := k) (e := e) (dp := dp) (mf := mf) (mt := mt) (gn := gn) (S := S) (J := L) 9 (Nat.le_refl _)
      rw [es]
      have X := ih (k + 1) (ax_u (ax_u J (m + 20) (dp k) (nI (mf (e k)))) (m + 21) (dp k) (nI (mt (e k)))) (ax_tt9 m e dp mf mt gn S k 9 L) (by omega) (q5.trans hf)
        (t_tjs hJ q1 q2 rfl (Nat.le_refl _) ⟨by rw [ax_u_ne (by omega), d, ax_u_at, ep]; exact s3.symm, by rw [d, ax_u_at, er]; exact s4.symm⟩ (fun i hi => ⟨by rw [ax_u_ne (by omega), d, ax_u_nj (by omega)], by rw [d, ax_u_nj (by omega), ax_u_ne (by omega)]⟩))
        (t_tls hL q1 q2 rfl (Nat.le_refl _) (t := fun z => B (e k) z) (fun z hz => by
          rw [← d, t2 z hz, ep, er]
          by_cases g : gn p ≤ z / 3 ∨ gn r ≤ z % 3
          · rw [if_pos g]; exact (s7 z hz g).symm
          · rw [if_neg g]; exact (s5 z hz).symm) (fun z hz => rfl) (fun z hz => t3 z (by rw [d]; exact hz)))
        (t_gss hG q1 q2 rfl (Nat.le_refl _) ⟨p, r, p6, r6, s3, s4, s6, s7⟩)
      exact ⟨X.1, fun q h1 h2 => (X.2.1 q h1 h2).trans (t1 q h1), X.2.2⟩
    · -- a number
      have es : ax_ttk m e dp mf mt gn S (n + 1) k (J, L) = if ax_wkv L m (e k) ((M k).1 - 1) 0 = true then ax_ttk m e dp mf mt gn S n (k + 1) (ax_u J (m + 21) ((M k).1 - 1) (nI ((J (m + 21) ((M k).1 - 1)).toNatClampNeg)), ax_wkL L m (e k) ((M k).1 - 1) 0) else (false, J, ax_wkL L m (e k) ((M k).1 - 1) 0) := by
        simp only [ax_ttk]; rw [if_pos c, if_pos c2, d]; rfl
      obtain ⟨q1, q2, q5⟩ := t_st2 (F := F) (T' := T') (B := B) (M := M k) c c2
      rw [← ms] at q1 q2 q5
      obtain ⟨w1, w2, w3, w4⟩ := t_wo (m := m) (op := e k) (z0 := (M k).1 - 1) (md := 0) (L := L)
      have va := t_v2 (m := m) (md := 0) (L := L) c2 (hL ((M k).1 - 1) (by omega))
      obtain ⟨p, r, p6, r6, g1, g2, g3, g4⟩ := hG ((M k).1 - 1) (by omega)
      obtain ⟨j1, j2⟩ := hJ ((M k).1 - 1) (by omega)
      refine go _ _ _ (fun z => ((M k).2.1 ((M k).1 - 1)).2.2 z * lN (e k - 20)) (w4.trans (t_in_cg va)) q5 w1 (fun hin => ⟨?_, ?_, ?_⟩) _ es
      · refine t_tjs hJ q1 q2 (by omega) (by omega) ⟨by rw [ax_u_ne (by omega)]; exact j1, ?_⟩ (fun i hi => ⟨by rw [ax_u_ne (by omega)], by rw [ax_u_nj (by omega)]⟩)
        rw [ax_u_at, j2, g2, nI_clamp (by omega)]
      · exact t_tls hL q1 q2 (by omega) (by omega) w2 (fun z hz => by rw [t_wt hin]; exact va z hz) (fun z hz => w3 z (Or.inl hz))
      · refine t_gss hG q1 q2 (by omega) (by omega) ⟨p, r, p6, r6, g1, g2, ?_, fun z hz hg => ?_⟩
        · show t_in (t_w _) = true; rw [t_wt hin]; exact hin
        · show t_w _ z = 0
          rw [t_wt hin]
          show ((M k).2.1 ((M k).1 - 1)).2.2 z * lN (e k - 20) = 0
          rw [g4 z hz hg, Int64.zero_mul]
    · -- one behind the other
      have es : ax_ttk m e dp mf mt gn S (n + 1) k (J, L) = if ax_wkv L m 40 ((M k).1 - 2) (gn ((J (m + 21) ((M k).1 - 2)).toNatClampNeg)) = true then ax_ttk m e dp mf mt gn S n (k + 1) (ax_u J (m + 21) ((M k).1 - 2) (nI ((J (m + 21) ((M k).1 - 1)).toNatClampNeg)), ax_wkL L m 40 ((M k).1 - 2) (gn ((J (m + 21) ((M k).1 - 2)).toNatClampNeg))) else (false, J, ax_wkL L m 40 ((M k).1 - 2) (gn ((J (m + 21) ((M k).1 - 2)).toNatClampNeg))) := by
        simp only [ax_ttk]; rw [if_pos (by omega), if_neg (by omega), if_neg (by omega), d, c, show (M k).1 - 1 - 1 = (M k).1 - 2 by omega]
      obtain ⟨q1, q2, q4, q5⟩ := t_st3 (F := F) (T' := T') (B := B) (M := M k)
      rw [c] at ms
      rw [← ms] at q1 q2 q4 q5
      obtain ⟨p, r, p6, r6, g1, g2, g3, g4⟩ := hG ((M k).1 - 2) (by omega)
      obtain ⟨p', r', p6', r6', g1', g2', g3', g4'⟩ := hG ((M k).1 - 1) (by omega)
      obtain ⟨j1, j2⟩ := hJ ((M k).1 - 2) (by omega)
      obtain ⟨j1', j2'⟩ := hJ ((M k).1 - 1) (by omega)
      rw [j2, g2, nI_clamp (by omega)] at es
      obtain ⟨w1, w2, w3, w4⟩ := t_wo (m := m) (op := 40) (z0 := (M k).1 - 2) (md := gn r) (L := L)
      have va := t_v3 (m := m) (z0 := (M k).1 - 2) (L := L) (a := ((M k).2.1 ((M k).1 - 2)).2.2) (b := ((M k).2.1 ((M k).1 - 1)).2.2) (hgn r r6) (hL ((M k).1 - 2) (by omega)) (fun z hz => by rw [show (M k).1 - 2 + 1 = (M k).1 - 1 by omega]; exact hL ((M k).1 - 1) (by omega) z hz) (fun z hz hm => g4 z hz (Or.inr hm))
      refine go _ _ _ (t_mul ((M k).2.1 ((M k).1 - 2)).2.2 ((M k).2.1 ((M k).1 - 1)).2.2) (w4.trans (t_in_cg va)) q5 w1 (fun hin => ⟨?_, ?_, ?_⟩) _ es
      · refine t_tjs hJ q1 q2 (by omega) (by omega) ⟨by rw [ax_u_ne (by omega)]; exact j1, ?_⟩ (fun i hi => ⟨by rw [ax_u_ne (by omega)], by rw [ax_u_nj (by omega)]⟩)
        rw [ax_u_at, j2', g2', nI_clamp (by omega)]
      · exact t_tls hL q1 q2 (by omega) (by omega) w2 (fun z hz => by rw [t_wt hin]; exact va z hz) (fun z hz => w3 z (Or.inl hz))
      · refine t_gss hG q1 q2 (by omega) (by omega) ⟨p, r', p6, r6', g1, g2', ?_, fun z hz hg => ?_⟩
        · show t_in (t_w _) = true; rw [t_wt hin]; exact hin
        · show t_w _ z = 0
          rw [t_wt hin]
          unfold t_mul
          rcases hg with hg | hg
          · rw [g4 (3 * (z / 3) + 0) (by omega) (Or.inl (by omega)), g4 (3 * (z / 3) + 1) (by omega) (Or.inl (by omega)), g4 (3 * (z / 3) + 2) (by omega) (Or.inl (by omega)), Int64.zero_mul, Int64.zero_mul, Int64.zero_mul, Int64.add_zero, Int64.add_zero, Int64.add_zero]
          · rw [g4' (3 * 0 + z % 3) (by omega) (Or.inr (by omega)), g4' (3 * 1 + z % 3) (by omega) (Or.inr (by omega)), g4' (3 * 2 + z % 3) (by omega) (Or.inr (by omega)), Int64.mul_zero, Int64.mul_zero, Int64.mul_zero, Int64.add_zero, Int64.add_zero, Int64.add_zero]
    · -- more and less
      have es : ax_ttk m e dp mf mt gn S (n + 1) k (J, L) = if ax_wkv L m (e k) ((M k).1 - 2) (gn ((J (m + 21) ((M k).1 - 2)).toNatClampNeg)) = true then ax_ttk m e dp mf mt gn S n (k + 1) (ax_u J (m + 21) ((M k).1 - 2) (nI ((J (m + 21) ((M k).1 - 1)).toNatClampNeg)), ax_wkL L m (e k) ((M k).1 - 2) (gn ((J (m + 21) ((M k).1 - 2)).toNatClampNeg))) else (false, J, ax_wkL L m (e k) ((M k).1 - 2) (gn ((J (m + 21) ((M k).1 - 2)).toNatClampNeg))) := by
        simp only [ax_ttk]; rw [if_pos (by omega), if_neg (by omega), if_neg (by omega), d, show (M k).1 - 1 - 1 = (M k).1 - 2 by omega]
      obtain ⟨q1, q2, q4, q5⟩ := t_st4 (F := F) (T' := T') (B := B) (M := M k) c c2
      rw [← ms] at q1 q2 q4 q5
      have al : ((M k).2.1 ((M k).1 - 1)).1 = ((M k).2.1 ((M k).1 - 2)).1 ∧ ((M k).2.1 ((M k).1 - 1)).2.1 = ((M k).2.1 ((M k).1 - 2)).2.1 := by
        rw [q4] at nf1
        rw [Bool.or_eq_false_iff, Bool.not_eq_false', Bool.and_eq_true, decide_eq_true_eq, decide_eq_true_eq] at nf1
        exact nf1.2
      obtain ⟨p, r, p6, r6, g1, g2, g3, g4⟩ := hG ((M k).1 - 2) (by omega)
      obtain ⟨p', r', p6', r6', g1', g2', g3', g4'⟩ := hG ((M k).1 - 1) (by omega)
      have epp : p' = p := (nI_eq (by omega) (by omega)).mp (g1'.symm.trans (al.1.trans g1))
      have err : r' = r := (nI_eq (by omega) (by omega)).mp (g2'.symm.trans (al.2.trans g2))
      subst epp err
      obtain ⟨j1, j2⟩ := hJ ((M k).1 - 2) (by omega)
      obtain ⟨j1', j2'⟩ := hJ ((M k).1 - 1) (by omega)
      obtain ⟨w1, w2, w3, w4⟩ := t_wo (m := m) (op := e k) (z0 := (M k).1 - 2) (md := gn ((J (m + 21) ((M k).1 - 2)).toNatClampNeg)) (L := L)
      have va := t_v4 (m := m) (z0 := (M k).1 - 2) (a := ((M k).2.1 ((M k).1 - 2)).2.2) (b := ((M k).2.1 ((M k).1 - 1)).2.2) (md := gn ((J (m + 21) ((M k).1 - 2)).toNatClampNeg)) (L := L) c c2 (hL ((M k).1 - 2) (by omega)) (fun z hz => by rw [show (M k).1 - 2 + 1 = (M k).1 - 1 by omega]; exact hL ((M k).1 - 1) (by omega) z hz)
      refine go _ _ _ (t_op (e k) ((M k).2.1 ((M k).1 - 2)).2.2 ((M k).2.1 ((M k).1 - 1)).2.2) (w4.trans (t_in_cg va)) q5 w1 (fun hin => ⟨?_, ?_, ?_⟩) _ es
      · refine t_tjs hJ q1 q2 (by omega) (by omega) ⟨by rw [ax_u_ne (by omega)]; exact j1, ?_⟩ (fun i hi => ⟨by rw [ax_u_ne (by omega)], by rw [ax_u_nj (by omega)]⟩)
        rw [ax_u_at, j2', g2', nI_clamp (by omega)]; exact g2.symm
      · exact t_tls hL q1 q2 (by omega) (by omega) w2 (fun z hz => by rw [t_wt hin]; exact va z hz) (fun z hz => w3 z (Or.inl hz))
      · refine t_gss hG q1 q2 (by omega) (by omega) ⟨p', r', p6', r6', g1, g2, ?_, fun z hz hg => ?_⟩
        · show t_in (t_w _) = true; rw [t_wt hin]; exact hin
        · show t_w _ z = 0
          rw [t_wt hin]
          unfold t_op
          rcases (show e k = 41 ∨ e k = 42 by omega) with ee | ee
          · rw [ee, if_neg (by omega), if_neg (by omega), if_pos rfl, g4 z hz hg, g4' z hz hg, Int64.mul_zero, Int64.add_zero]
          · rw [ee, if_neg (by omega), if_neg (by omega), if_neg (by omega), if_pos rfl, g4 z hz hg, g4' z hz hg, Int64.mul_zero, Int64.add_zero]
    · -- turned
      have e43 : e k = 43 := by omega
      have es : ax_ttk m e dp mf mt gn S (n + 1) k (J, L) = if ax_wkv L m 43 ((M k).1 - 1) 0 = true then ax_ttk m e dp mf mt gn S n (k + 1) (ax_u J (m + 21) ((M k).1 - 1) (nI ((J (m + 21) ((M k).1 - 1)).toNatClampNeg)), ax_wkL L m 43 ((M k).1 - 1) 0) else (false, J, ax_wkL L m 43 ((M k).1 - 1) 0) := by
        simp only [ax_ttk]; rw [if_pos (by omega), if_neg (by omega), if_pos c, d, e43]; rfl
      obtain ⟨q1, q2, -, -, q5⟩ := h.d5 hk' c
      obtain ⟨w1, w2, w3, w4⟩ := t_wo (m := m) (op := 43) (z0 := (M k).1 - 1) (md := 0) (L := L)
      have va := t_v5 (m := m) (md := 0) (L := L) (hL ((M k).1 - 1) (by omega))
      obtain ⟨p, r, p6, r6, g1, g2, g3, g4⟩ := hG ((M k).1 - 1) (by omega)
      obtain ⟨j1, j2⟩ := hJ ((M k).1 - 1) (by omega)
      have inn := t_neg g3
      generalize (-1 : Int64) = v at va q2 inn
      refine go _ _ _ (fun z => ((M k).2.1 ((M k).1 - 1)).2.2 z * v) (w4.trans (t_in_cg va)) (by rw [q5, inn]; simp) w1 (fun hin => ⟨?_, ?_, ?_⟩) _ es
      · refine t_tjs hJ q1 q2 (by omega) (by omega) ⟨by rw [ax_u_ne (by omega)]; exact j1, ?_⟩ (fun i hi => ⟨by rw [ax_u_ne (by omega)], by rw [ax_u_nj (by omega)]⟩)
        rw [ax_u_at, j2, g2, nI_clamp (by omega)]
      · exact t_tls hL q1 q2 (by omega) (by omega) w2 (fun z hz => va z hz) (fun z hz => w3 z (Or.inl hz))
      · refine t_gss hG q1 q2 (by omega) (by omega) ⟨p, r, p6, r6, g1, g2, inn, fun z hz hg => ?_⟩
        show ((M k).2.1 ((M k).1 - 1)).2.2 z * v = 0
        rw [g4 z hz hg, Int64.zero_mul]

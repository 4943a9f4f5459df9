/-! ===== text: the machine and the reference's three passes ===== -/
/-- maps, as the machine and the row have them -/
def tS (S : Nat → Int32) (gn : Nat → Nat) (F T' : Nat → Int32) (B : Nat → Nat → Int64) : Prop := ∀ f, f < 8 → (S (84 + 11 * f) < 0 ↔ F f = -1) ∧ (F f ≠ -1 → ∃ p r, p < 6 ∧ r < 6 ∧ S (84 + 11 * f) = nI p ∧ S (84 + 11 * f + 1) = nI r ∧ F f = nI p ∧ T' f = nI r ∧ (∀ z, z < 9 → B f z = (S (84 + 11 * f + 2 + z)).toInt64) ∧ t_in (B f) = true ∧ ∀ z, z < 9 → (gn p ≤ z / 3 ∨ gn r ≤ z % 3) → B f z = 0)
/-- a run of the machine -/
def tR (F T' : Nat → Int32) (B : Nat → Nat → Int64) (e : Nat → Nat) (M : Nat → tM) (kc : Nat) : Prop := ((M 0).1 = 0 ∧ (M 0).2.2.1 = false ∧ (M 0).2.2.2.1 = false ∧ (M 0).2.2.2.2 = false) ∧ (∀ k, k < kc → M (k + 1) = t_st F T' B (e k) (M k)) ∧ (∀ k, k < kc → e k ≤ 43 ∧ (M k).1 ≤ 60 ∧ ((e k < 8 ∧ (M k).1 < 60) ∨ (20 ≤ e k ∧ e k < 40 ∧ 1 ≤ (M k).1) ∨ (40 ≤ e k ∧ e k < 43 ∧ 2 ≤ (M k).1) ∨ (e k = 43 ∧ 1 ≤ (M k).1)))
theorem tR.m0 {F T' : Nat → Int32} {B : Nat → Nat → Int64} {e : Nat → Nat} {M : Nat → tM} {kc : Nat} (h : tR F T' B e M kc) : (M 0).1 = 0 ∧ (M 0).2.2.1 = false ∧ (M 0).2.2.2.1 = false ∧ (M 0).2.2.2.2 = false := h.1
theorem tR.ms {F T' : Nat → Int32} {B : Nat → Nat → Int64} {e : Nat → Nat} {M : Nat → tM} {kc : Nat} (h : tR F T' B e M kc) : ∀ k, k < kc → M (k + 1) = t_st F T' B (e k) (M k) := h.2.1
theorem tR.ok {F T' : Nat → Int32} {B : Nat → Nat → Int64} {e : Nat → Nat} {M : Nat → tM} {kc : Nat} (h : tR F T' B e M kc) : ∀ k, k < kc → e k ≤ 43 ∧ (M k).1 ≤ 60 ∧ ((e k < 8 ∧ (M k).1 < 60) ∨ (20 ≤ e k ∧ e k < 40 ∧ 1 ≤ (M k).1) ∨ (40 ≤ e k ∧ e k < 43 ∧ 2 ≤ (M k).1) ∨ (e k = 43 ∧ 1 ≤ (M k).1)) := h.2.2
/-- groups on the pile -/
def tJ (J : ax_I) (m : Nat) (M : tM) : Prop := ∀ i, i < M.1 → J (m + 20) i = (M.2.1 i).1 ∧ J (m + 21) i = (M.2.1 i).2.1
/-- the five kinds of codes -/
theorem tR.c1 {F T' : Nat → Int32} {B : Nat → Nat → Int64} {e : Nat → Nat} {M : Nat → tM} {kc : Nat} (h : tR F T' B e M kc) {k : Nat} (hk : k < kc) (c : e k < 8) : M (k + 1) = ((M k).1 + 1, t_up (M k).2.1 (M k).1 (F (e k), T' (e k), B (e k)), (M k).2.2.1 || decide (F (e k) = -1), (M k).2.2.2.1, (M k).2.2.2.2) := by
  rw [h.ms k hk]; unfold t_st; rw [if_pos c]
theorem tR.c2 {F T' : Nat → Int32} {B : Nat → Nat → Int64} {e : Nat → Nat} {M : Nat → tM} {kc : Nat} (h : tR F T' B e M kc) {k : Nat} (hk : k < kc) (c : 8 ≤ e k) (c2 : e k < 40) : M (k + 1) = ((M k).1, t_up (M k).2.1 ((M k).1 - 1) (((M k).2.1 ((M k).1 - 1)).1, ((M k).2.1 ((M k).1 - 1)).2.1, t_w (fun z => ((M k).2.1 ((M k).1 - 1)).2.2 z * lN (e k - 20))), (M k).2.2.1, (M k).2.2.2.1, (M k).2.2.2.2 || !t_in (fun z => ((M k).2.1 ((M k).1 - 1)).2.2 z * lN (e k - 20))) := by
  rw [h.ms k hk]; unfold t_st t_op; rw [if_neg (by omega), if_pos c2, if_pos c2]
theorem tR.c3 {F T' : Nat → Int32} {B : Nat → Nat → Int64} {e : Nat → Nat} {M : Nat → tM} {kc : Nat} (h : tR F T' B e M kc) {k : Nat} (hk : k < kc) (c : e k = 40) : M (k + 1) = ((M k).1 - 1, t_up (M k).2.1 ((M k).1 - 2) (((M k).2.1 ((M k).1 - 2)).1, ((M k).2.1 ((M k).1 - 1)).2.1, t_w (t_mul ((M k).2.1 ((M k).1 - 2)).2.2 ((M k).2.1 ((M k).1 - 1)).2.2)), (M k).2.2.1, (M k).2.2.2.1 || !decide (((M k).2.1 ((M k).1 - 1)).1 = ((M k).2.1 ((M k).1 - 2)).2.1), (M k).2.2.2.2 || !t_in (t_mul ((M k).2.1 ((M k).1 - 2)).2.2 ((M k).2.1 ((M k).1 - 1)).2.2)) := by
  rw [h.ms k hk]; unfold t_st t_op; rw [if_neg (by omega), if_neg (by omega), if_pos c, if_neg (by omega), if_pos c]
theorem tR.c4 {F T' : Nat → Int32} {B : Nat → Nat → Int64} {e : Nat → Nat} {M : Nat → tM} {kc : Nat} (h : tR F T' B e M kc) {k : Nat} (hk : k < kc) (c : 40 < e k) (c2 : e k < 43) : M (k + 1) = ((M k).1 - 1, t_up (M k).2.1 ((M k).1 - 2) (((M k).2.1 ((M k).1 - 2)).1, ((M k).2.1 ((M k).1 - 2)).2.1, t_w (t_op (e k) ((M k).2.1 ((M k).1 - 2)).2.2 ((M k).2.1 ((M k).1 - 1)).2.2)), (M k).2.2.1, (M k).2.2.2.1 || !(decide (((M k).2.1 ((M k).1 - 1)).1 = ((M k).2.1 ((M k).1 - 2)).1) && decide (((M k).2.1 ((M k).1 - 1)).2.1 = ((M k).2.1 ((M k).1 - 2)).2.1)), (M k).2.2.2.2 || !t_in (t_op (e k) ((M k).2.1 ((M k).1 - 2)).2.2 ((M k).2.1 ((M k).1 - 1)).2.2)) := by
  rw [h.ms k hk]; unfold t_st; rw [if_neg (by omega), if_neg (by omega), if_neg (by omega), if_pos c2]
theorem tR.c5 {F T' : Nat → Int32} {B : Nat → Nat → Int64} {e : Nat → Nat} {M : Nat → tM} {kc : Nat} (h : tR F T' B e M kc) {k : Nat} (hk : k < kc) (c : 43 ≤ e k) : M (k + 1) = ((M k).1, t_up (M k).2.1 ((M k).1 - 1) (((M k).2.1 ((M k).1 - 1)).1, ((M k).2.1 ((M k).1 - 1)).2.1, fun z => ((M k).2.1 ((M k).1 - 1)).2.2 z * (-1)), (M k).2.2.1, (M k).2.2.2.1, (M k).2.2.2.2) := by
  rw [h.ms k hk]; unfold t_st t_op; rw [if_neg (by omega), if_neg (by omega), if_neg (by omega), if_neg (by omega), if_neg (by omega), if_neg (by omega), if_neg (by omega), if_neg (by omega)]
theorem t_st5 {F T' : Nat → Int32} {B : Nat → Nat → Int64} {x : Nat} {M : tM} (c : 43 ≤ x) : (t_st F T' B x M).1 = M.1 ∧ (t_st F T' B x M).2.1 = t_up M.2.1 (M.1 - 1) ((M.2.1 (M.1 - 1)).1, (M.2.1 (M.1 - 1)).2.1, fun z => (M.2.1 (M.1 - 1)).2.2 z * (-1)) ∧ (t_st F T' B x M).2.2.1 = M.2.2.1 ∧ (t_st F T' B x M).2.2.2.1 = M.2.2.2.1 ∧ (t_st F T' B x M).2.2.2.2 = M.2.2.2.2 := by
  obtain ⟨d, st, nm, nf, tg⟩ := M
  unfold t_st t_op
  rw [if_neg (by omega), if_neg (by omega), if_neg (by omega), if_neg (by omega), if_neg (by omega), if_neg (by omega), if_neg (by omega), if_neg (by omega)]
  exact ⟨rfl, rfl, rfl, rfl, rfl⟩
theorem tR.d5 {F T' : Nat → Int32} {B : Nat → Nat → Int64} {e : Nat → Nat} {M : Nat → tM} {kc : Nat} (h : tR F T' B e M kc) {k : Nat} (hk : k < kc) (c : 43 ≤ e k) : (M (k + 1)).1 = (M k).1 ∧ (M (k + 1)).2.1 = t_up (M k).2.1 ((M k).1 - 1) (((M k).2.1 ((M k).1 - 1)).1, ((M k).2.1 ((M k).1 - 1)).2.1, fun z => ((M k).2.1 ((M k).1 - 1)).2.2 z * (-1)) ∧ (M (k + 1)).2.2.1 = (M k).2.2.1 ∧ (M (k + 1)).2.2.2.1 = (M k).2.2.2.1 ∧ (M (k + 1)).2.2.2.2 = (M k).2.2.2.2 := by
  rw [h.ms k hk]; exact t_st5 c
theorem t_tj5 {J : ax_I} {m : Nat} {M N : tM} {v : Int64} (hJ : tJ J m M) (h1 : N.1 = M.1) (h2 : N.2.1 = t_up M.2.1 (M.1 - 1) ((M.2.1 (M.1 - 1)).1, (M.2.1 (M.1 - 1)).2.1, fun z => (M.2.1 (M.1 - 1)).2.2 z * v)) : tJ J m N := fun i hi => by
  rw [h1] at hi
  rw [h2]
  by_cases ei : i = M.1 - 1
  · subst ei; rw [t_up_at]; exact hJ _ hi
  · rw [t_up_ne ei]; exact hJ i hi
/-- what is wrong once stays wrong -/
theorem tR.mono {F T' : Nat → Int32} {B : Nat → Nat → Int64} {e : Nat → Nat} {M : Nat → tM} {kc : Nat} (h : tR F T' B e M kc) {k : Nat} (hk : k < kc) : ((M k).2.2.1 = true → (M (k + 1)).2.2.1 = true) ∧ ((M k).2.2.2.1 = true → (M (k + 1)).2.2.2.1 = true) ∧ ((M k).2.2.2.2 = true → (M (k + 1)).2.2.2.2 = true) := by
  rcases (show e k < 8 ∨ (8 ≤ e k ∧ e k < 40) ∨ e k = 40 ∨ (40 < e k ∧ e k < 43) ∨ 43 ≤ e k by omega) with c | ⟨c, c2⟩ | c | ⟨c, c2⟩ | c
  · rw [h.c1 hk c]; exact ⟨fun q => by dsimp only; rw [q]; rfl, fun q => q, fun q => q⟩
  · rw [h.c2 hk c c2]; exact ⟨fun q => q, fun q => q, fun q => by dsimp only; rw [q]; rfl⟩
  · rw [h.c3 hk c]; exact ⟨fun q => q, fun q => by dsimp only; rw [q]; rfl, fun q => by dsimp only; rw [q]; rfl⟩
  · rw [h.c4 hk c c2]; exact ⟨fun q => q, fun q => by dsimp only; rw [q]; rfl, fun q => by dsimp only; rw [q]; rfl⟩
  · rw [h.c5 hk c]; exact ⟨fun q => q, fun q => q, fun q => q⟩
theorem tR.up {F T' : Nat → Int32} {B : Nat → Nat → Int64} {e : Nat → Nat} {M : Nat → tM} {kc : Nat} (h : tR F T' B e M kc) : ∀ n k, k + n = kc → ((M k).2.2.1 = true → (M kc).2.2.1 = true) ∧ ((M k).2.2.2.1 = true → (M kc).2.2.2.1 = true) ∧ ((M k).2.2.2.2 = true → (M kc).2.2.2.2 = true) := by
  intro n
  induction n with
  | zero => intro k hk; have : k = kc := by omega
            subst this; exact ⟨id, id, id⟩
  | succ n ih =>
    intro k hk
    obtain ⟨a1, a2, a3⟩ := ih (k + 1) (by omega)
    obtain ⟨b1, b2, b3⟩ := h.mono (k := k) (by omega)
    exact ⟨fun q => a1 (b1 q), fun q => a2 (b2 q), fun q => a3 (b3 q)⟩
/-- nothing wrong at the end: nothing on the way -/
theorem tR.dn {F T' : Nat → Int32} {B : Nat → Nat → Int64} {e : Nat → Nat} {M : Nat → tM} {kc : Nat} (h : tR F T' B e M kc) {k : Nat} (hk : k ≤ kc) : ((M kc).2.2.1 = false → (M k).2.2.1 = false) ∧ ((M kc).2.2.2.1 = false → (M k).2.2.2.1 = false) ∧ ((M kc).2.2.2.2 = false → (M k).2.2.2.2 = false) := by
  obtain ⟨a1, a2, a3⟩ := h.up (kc - k) k (by omega)
  refine ⟨fun q => ?_, fun q => ?_, fun q => ?_⟩
  · cases c : (M k).2.2.1 with
    | false => rfl
    | true => rw [a1 c] at q; cases q
  · cases c : (M k).2.2.2.1 with
    | false => rfl
    | true => rw [a2 c] at q; cases q
  · cases c : (M k).2.2.2.2 with
    | false => rfl
    | true => rw [a3 c] at q; cases q
/-- are all maps -/
theorem t_am {S F T' : Nat → Int32} {B : Nat → Nat → Int64} {e gn : Nat → Nat} {M : Nat → tM} {kc m : Nat} {J : ax_I} (h : tR F T' B e M kc) (hS : tS S gn F T' B) (hJ : J (m + 1) = S) : ∀ n, n ≤ kc → ax_amk J m e n true = !(M n).2.2.1 := by
  intro n
  induction n with
  | zero => intro _; rw [h.m0.2.1]; rfl
  | succ n ih =>
    intro hn
    show (if ax_amk J m e n true = true then (if 8 ≤ e n then true else (if (!decide (J (m + 1) (84 + 11 * e n) < 0)) = true then true else false)) else false) = _
    rw [ih (by omega)]
    cases c : (M n).2.2.1 with
    | true => rw [(h.mono (k := n) (by omega)).1 c]; rfl
    | false =>
      rw [if_pos (show (!false) = true from rfl)]
      rcases (show e n < 8 ∨ (8 ≤ e n ∧ e n < 40) ∨ e n = 40 ∨ (40 < e n ∧ e n < 43) ∨ 43 ≤ e n by omega) with d | ⟨d, d2⟩ | d | ⟨d, d2⟩ | d
      · rw [if_neg (by omega), h.c1 (by omega) d, hJ]
        dsimp only
        rw [c, Bool.false_or]
        have iff := (hS (e n) d).1
        by_cases f : F (e n) = -1
        · rw [decide_eq_true f, decide_eq_true (iff.mpr f)]; rfl
        · rw [decide_eq_false f, decide_eq_false (fun z => f (iff.mp z))]; rfl
      · rw [if_pos d, h.c2 (by omega) d d2]; dsimp only; rw [c]; rfl
      · rw [if_pos (by omega), h.c3 (by omega) d]; dsimp only; rw [c]; rfl
      · rw [if_pos (by omega), h.c4 (by omega) d d2]; dsimp only; rw [c]; rfl
      · rw [if_pos (by omega), h.c5 (by omega) d]; dsimp only; rw [c]; rfl
theorem t_gt {S F T' : Nat → Int32} {B : Nat → Nat → Int64} {e gn dp : Nat → Nat} {M : Nat → tM} {kc m : Nat} (h : tR F T' B e M kc) (hS : tS S gn F T' B) (hnm : (M kc).2.2.1 = false) (hdp : ∀ k, k ≤ kc → dp k = (M k).1) : ∀ n k (J : ax_I), k + n = kc → (M k).2.2.2.1 = false → tJ J m (M k) → (ax_gtk m e dp S n k J).1 = !(M kc).2.2.2.1 ∧ ((M kc).2.2.2.1 = false → tJ (ax_gtk m e dp S n k J).2 m (M kc)) := by
  intro n
  induction n with
  | zero =>
    intro k J hk hf hJ
    have : k = kc := by omega
    subst this
    exact ⟨by rw [hf]; rfl, fun _ => hJ⟩
  | succ n ih =>
    intro k J hk hf hJ
    have hk' : k < kc := by omega
    have d := hdp k (by omega)
    obtain ⟨o1, o0, o2⟩ := h.ok k hk'
    have wrong : (M (k + 1)).2.2.2.1 = true → (M kc).2.2.2.1 = true := fun q => (h.up (kc - (k + 1)) (k + 1) (by omega)).2.1 q
    have bad : ∀ J' : ax_I, (M (k + 1)).2.2.2.1 = true → ((false, J') : Bool × ax_I).1 = !(M kc).2.2.2.1 ∧ ((M kc).2.2.2.1 = false → tJ ((false, J') : Bool × ax_I).2 m (M kc)) := fun J' q => by
      rw [wrong q]; exact ⟨rfl, fun z => by cases z⟩
    rcases (show e k < 8 ∨ (8 ≤ e k ∧ e k < 40) ∨ e k = 40 ∨ (40 < e k ∧ e k < 43) ∨ 43 ≤ e k by omega) with c | ⟨c, c2⟩ | c | ⟨c, c2⟩ | c
    · have es : ax_gtk m e dp S (n + 1) k J = ax_gtk m e dp S n (k + 1) (ax_u (ax_u J (m + 20) (dp k) (S (84 + 11 * e k))) (m + 21) (dp k) (S (84 + 11 * e k + 1))) := by
        simp only [ax_gtk]; rw [if_neg (by omega)]
      have q := h.c1 hk' c
      have nz : F (e k) ≠ -1 := fun z => by
        have : (M (k + 1)).2.2.1 = true := by rw [q]; dsimp only; rw [decide_eq_true z, Bool.or_true]
        have := (h.up (kc - (k + 1)) (k + 1) (by omega)).1 this
        rw [hnm] at this; cases this
      obtain ⟨p, r, -, -, s1, s2, s3, s4, -⟩ := (hS (e k) c).2 nz
      rw [es]
      refine ih (k + 1) _ (by omega) (by rw [q]; exact hf) (fun i hi => ?_)
      rw [q] at hi ⊢
      dsimp only at hi ⊢
      rw [ax_u_ne (show m + 20 ≠ m + 21 by omega)]
      by_cases ei : i = (M k).1
      · subst ei
        rw [d, ax_u_at, ax_u_at, t_up_at, s1, s2, s3, s4]; exact ⟨rfl, rfl⟩
      · rw [d, ax_u_nj ei, ax_u_nj ei, t_up_ne ei, ax_u_ne (show m + 21 ≠ m + 20 by omega)]
        exact hJ i (by omega)
    · have es : ax_gtk m e dp S (n + 1) k J = ax_gtk m e dp S n (k + 1) J := by
        simp only [ax_gtk]; rw [if_pos c, if_pos c2]
      have q := h.c2 hk' c c2
      rw [es]
      refine ih (k + 1) _ (by omega) (by rw [q]; exact hf) (fun i hi => ?_)
      rw [q] at hi ⊢
      dsimp only at hi ⊢
      by_cases ei : i = (M k).1 - 1
      · subst ei; rw [t_up_at]; exact hJ _ hi
      · rw [t_up_ne ei]; exact hJ i hi
    · have es : ax_gtk m e dp S (n + 1) k J = (if J (m + 21) ((dp k - 1) - 1) = J (m + 20) (dp k - 1) then ax_gtk m e dp S n (k + 1) (ax_u J (m + 21) ((dp k - 1) - 1) (J (m + 21) (dp k - 1))) else (false, J)) := by
        simp only [ax_gtk]; rw [if_pos (by omega), if_neg (by omega), if_neg (by omega), if_pos c]
      have q := h.c3 hk' c
      rw [es, d, show (M k).1 - 1 - 1 = (M k).1 - 2 by omega]
      obtain ⟨x1, x2⟩ := hJ ((M k).1 - 2) (by omega)
      obtain ⟨y1, y2⟩ := hJ ((M k).1 - 1) (by omega)
      rw [x2, y1, y2]
      by_cases g : ((M k).2.1 ((M k).1 - 2)).2.1 = ((M k).2.1 ((M k).1 - 1)).1
      · rw [if_pos g]
        refine ih (k + 1) _ (by omega) (by rw [q]; dsimp only; rw [hf, decide_eq_true g.symm]; rfl) (fun i hi => ?_)
        rw [q] at hi ⊢
        dsimp only at hi ⊢
        rw [ax_u_ne (show m + 20 ≠ m + 21 by omega)]
        by_cases ei : i = (M k).1 - 2
        · subst ei; rw [t_up_at, ax_u_at]; exact ⟨x1, rfl⟩
        · rw [t_up_ne ei, ax_u_nj ei]; exact hJ i (by omega)
      · rw [if_neg g]
        exact bad J (by rw [q]; dsimp only; rw [decide_eq_false (fun z => g z.symm), Bool.not_false, Bool.or_true])
    · have es : ax_gtk m e dp S (n + 1) k J = (if J (m + 20) ((dp k - 1) - 1) = J (m + 20) (dp k - 1) then (if J (m + 21) ((dp k - 1) - 1) = J (m + 21) (dp k - 1) then ax_gtk m e dp S n (k + 1) (ax_u J (m + 21) ((dp k - 1) - 1) (J (m + 21) (dp k - 1))) else (false, J)) else (false, J)) := by
        simp only [ax_gtk]; rw [if_pos (by omega), if_neg (by omega), if_neg (by omega), if_neg (by omega)]
      have q := h.c4 hk' c c2
      rw [es, d, show (M k).1 - 1 - 1 = (M k).1 - 2 by omega]
      obtain ⟨x1, x2⟩ := hJ ((M k).1 - 2) (by omega)
      obtain ⟨y1, y2⟩ := hJ ((M k).1 - 1) (by omega)
      rw [x1, x2, y1, y2]
      by_cases g : ((M k).2.1 ((M k).1 - 2)).1 = ((M k).2.1 ((M k).1 - 1)).1
      · rw [if_pos g]
        by_cases g2 : ((M k).2.1 ((M k).1 - 2)).2.1 = ((M k).2.1 ((M k).1 - 1)).2.1
        · rw [if_pos g2]
          refine ih (k + 1) _ (by omega) (by rw [q]; dsimp only; rw [hf, decide_eq_true g.symm, decide_eq_true g2.symm]; rfl) (fun i hi => ?_)
          rw [q] at hi ⊢
          dsimp only at hi ⊢
          rw [ax_u_ne (show m + 20 ≠ m + 21 by omega)]
          by_cases ei : i = (M k).1 - 2
          · subst ei; rw [t_up_at, ax_u_at]; exact ⟨x1, g2.symm⟩
          · rw [t_up_ne ei, ax_u_nj ei]; exact hJ i (by omega)
        · rw [if_neg g2]
          exact bad J (by rw [q]; dsimp only; rw [decide_eq_true g.symm, decide_eq_false (fun z => g2 z.symm), Bool.and_false, Bool.not_false, Bool.or_true])
      · rw [if_neg g]
        exact bad J (by rw [q]; dsimp only; rw [decide_eq_false (fun z => g z.symm), Bool.false_and, Bool.not_false, Bool.or_true])
    · have es : ax_gtk m e dp S (n + 1) k J = ax_gtk m e dp S n (k + 1) J := by
        simp only [ax_gtk]; rw [if_pos (by omega), if_neg (by omega), if_pos c]
      obtain ⟨q1, q2, -, q4, -⟩ := h.d5 hk' c
      rw [es]
      exact ih (k + 1) _ (by omega) (q4.trans hf) (t_tj5 hJ q1 q2)

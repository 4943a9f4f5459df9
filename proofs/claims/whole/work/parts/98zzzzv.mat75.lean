/-! ===== the rings of what a map reaches, by its kernel and by what is nothing ===== -/
/-- rings divide one another -/
theorem cj_ch {t wd E W : Nat} {M : Nat → Nat → Int} {r : Nat → Nat} (ht : t ≤ 3) (hw : wd ≤ 3) (hO : gr_O t wd M) (hE : 2 * W + E < 9223372036854775808) (hE1 : 1 ≤ E) (h1 : ∀ i j, (M i j).natAbs ≤ E) (h2 : ∀ i k j l, (gv2 (M i) (M k) j l).natAbs ≤ W) (h3 : ∀ i k p j l m, (gv3 (M i) (M k) (M p) j l m).natAbs ≤ W) (hr : gr_is r M) : (∀ i j, i < j → j < 3 → r i ∣ r j) ∧ ∀ i, i < 3 → r i < 9223372036854775808 := by
  obtain ⟨Y, s, -, -, -, y4, y5, Bd, b1, b2, b3⟩ := gr_G1 (Q := gq_Q E W) (m := 0) (t := t) (wd := wd) (K := W + E) (M := M) (L := fun _ z => Int64.ofInt (M (z / 3) (z % 3))) hw (gq_Q.ok ht hw hE) (gq_Q.s h1 h2 h3) hO (fun i j hi hj => by
    show Int64.ofInt (M ((3 * i + j) / 3) ((3 * i + j) % 3)) = _
    rw [show (3 * i + j) / 3 = i by omega, show (3 * i + j) % 3 = j by omega]) (by omega) (by omega) (fun i j => by have := h1 i j; omega) (fun i k j l => by have := h2 i k j l; omega) (fun i k p j l m => by have := h3 i k p j l m; omega)
  have e := hr.uniq y4 (gr_D.refl _)
  refine ⟨fun i j hij hj => by rw [e i (by omega), e j hj]; exact y5 i j hij hj, fun i hi => ?_⟩
  rw [e i hi]
  exact b3.lt b1 (by omega) hi
theorem gz_fit2 {S : Nat → Int32} {gn gc : Nat → Nat} {k p r : Nat} (hW : rl_Wg S) (hWm : rl_Wm S) (hsn : ∀ g, g < 6 → S (14 * g) = nI (gn g) ∧ gn g ≤ 3) (hsc : ∀ g, g < 6 → S (14 * g + 1) = nI (gc g) ∧ gc g ≤ 4) (hM : ax_Mp S k p r (gn p) (gn r)) : ∀ a b, a < gn r + gn p → b < gn r + gn p → (mx_H S gn gc k p r a b).natAbs ≤ 9000000000000000000 := by
  obtain ⟨m1, m2, m3, -⟩ := id hM
  obtain ⟨⟨hH, s1, s2⟩, hl, -⟩ := mx_Hf hW hWm hsn hsc hM
  obtain ⟨κ, lam, Λ, hkd⟩ := mx_kd hW hsn hsc m3
  have hn := (hsn p m2).2
  have hm := (hsn r m3).2
  have ht := mx_t.b hWm hM
  have hK := gx_K (n := gn p) hkd.1 hn ht
  obtain ⟨-, -, -, -, q1, q2, -⟩ := hkd
  have hκ : 6 * max (297 * (297 * κ)) 26198073 ≤ 9000000000000000000 := by
    have h1 : 1 * (99 + 3230 * (6 * (297 * (297 * κ)))) ≤ Λ * (99 + 3230 * (6 * (297 * (297 * κ)))) := Nat.mul_le_mul_right _ q1
    generalize Λ * (99 + 3230 * (6 * (297 * (297 * κ)))) = X at h1 q2
    generalize 31 * Λ * (Λ + lam) = Y at q2
    omega
  intro a b ha hb
  by_cases z : mx_H S gn gc k p r b b = 0
  · have := gx_beta (by omega) hH s1 s2 hK (q := a) (e := b) ha hb z
    omega
  · have hlb := hl b hb
    rcases Nat.lt_trichotomy a b with h | h | h
    · have := hH.2.2.2.1 a b h hb z
      omega
    · subst h; omega
    · rw [hH.1 a b ha h]; exact Nat.zero_le _
/-- own rings of two lists that are the same behind their ones -/
theorem iy_ow {H H' : Nat → Int64} {r s : Nat → Nat} {n ρ : Nat} (hn : n ≤ 3) (hρ : ρ ≤ 3) (hH : ∀ k, k < n → H k = Int64.ofInt (r k : Int)) (hH' : ∀ k, k < ρ → H' k = Int64.ofInt (s k : Int)) (e : ∀ i, i < 3 → iy_pd n r i = iy_pd ρ s i) : ax_cn H n = ax_cn H' ρ ∧ ∀ k, k < ax_cn H n → ax_owc H n k = ax_owc H' ρ k := by
  have pad : ∀ (F : Nat → Int64) (f : Nat → Nat) (w : Nat), w ≤ 3 → (∀ k, k < w → F k = Int64.ofInt (f k : Int)) → ax_ow F w = ax_ow (fun i => Int64.ofInt (iy_pd w f i : Int)) 3 := fun F f w hw hF => by
    have one : ∀ i, i < 3 - w → Int64.ofInt ((iy_pd w f i : Nat) : Int) = 1 := fun i hi => by unfold iy_pd; rw [if_pos hi]; rfl
    have oth : ∀ i, i < w → Int64.ofInt ((iy_pd w f (3 - w + i) : Nat) : Int) = F i := fun i hi => by
      unfold iy_pd; rw [if_neg (by omega), show 3 - w + i - (3 - w) = i by omega]; exact (hF i hi).symm
    have key : ∀ d, d ≤ w → ax_ow (fun i => Int64.ofInt (iy_pd w f i : Int)) (3 - w + d) = ax_ow F d := by
      intro d
      induction d with
      | zero => intro _; exact og_ow _ (fun k hk => one k hk)
      | succ d ih =>
        intro hd
        show ax_ow _ (3 - w + d) + (if Int64.ofInt (iy_pd w f (3 - w + d) : Int) = 1 then 0 else 1) = ax_ow F d + (if F d = 1 then 0 else 1)
        rw [ih (by omega), oth d (by omega)]
    have := key w (Nat.le_refl _)
    rw [show 3 - w + w = 3 by omega] at this; exact this.symm
  have c1 : ax_cn H n = ax_cn H' ρ := by
    rw [og_cn, og_cn, pad H r n hn hH, pad H' s ρ hρ hH']
    exact og_ow_cg 3 (fun k hk => by rw [e k hk])
  refine ⟨c1, fun k hk => ?_⟩
  have l1 := ax_cn_le H n
  have l2 := ax_cn_le H' ρ
  have o1 : ax_owc H n k = H (n - ax_cn H n + k) := if_pos (by omega)
  have o2 : ax_owc H' ρ k = H' (ρ - ax_cn H' ρ + k) := if_pos (by omega)
  rw [o1, o2, ← c1, hH _ (by omega), hH' _ (by omega)]
  have := e (3 - ax_cn H n + k) (by omega)
  unfold iy_pd at this
  rw [if_neg (by omega), if_neg (by omega), show 3 - ax_cn H n + k - (3 - n) = n - ax_cn H n + k by omega, show 3 - ax_cn H n + k - (3 - ρ) = ρ - ax_cn H n + k by omega] at this
  rw [this]
/-- by a kernel and by what is nothing: the same rings behind ones -/
theorem cj_one {m n : Nat} {O t H : Nat → Nat → Int} {r s : Nat → Nat} (hm : m ≤ 3) (hn : n ≤ 3) (hBO : cg_B m O) (hH : mt_hn (m + n) H) (s1 : ∀ k, k < m + n → mt_sp (m + n) (gx_X m n O t) (H k)) (s2 : ∀ r, r < m + n → mt_sp (m + n) H (gx_X m n O t r)) (hr : gr_is r (gx_N m n H)) (hs : gr_is s (cj_M (gx_R m H) O m)) (c : ∀ i j, i < j → j < 3 → r i ∣ r j) (c' : ∀ i j, i < j → j < 3 → s i ∣ s j) : ∀ i, i < 3 → iy_pd n r i = iy_pd (cg_rk (gx_R m H) m) s i := by
  have hR := gx_R.hn hH
  have hOz : ∀ k j, k < m → m ≤ j → O k j = 0 := fun k j _ hj => hBO.out k j hj
  have hr3 : cg_rk (gx_R m H) m ≤ 3 := by have := cg_rk_le (gx_R m H) m; omega
  have iml : ∀ f g c z, (fun y : Nat → Int => fun j => if j < m then gz_i n t y j else 0) (fun i => f i + c * g i) z = (fun y : Nat → Int => fun j => if j < m then gz_i n t y j else 0) f z + c * (fun y : Nat → Int => fun j => if j < m then gz_i n t y j else 0) g z := fun f g c z => by
    show (if z < m then gz_i n t (fun i => f i + c * g i) z else 0) = (if z < m then gz_i n t f z else 0) + c * (if z < m then gz_i n t g z else 0)
    by_cases cz : z < m
    · rw [if_pos cz, if_pos cz, if_pos cz]
      unfold gz_i
      rw [← mt_s_mul, ← mt_s_add]
      exact mt_s_cg (fun i _ => by rw [Int.add_mul, Int.mul_assoc])
    · rw [if_neg cz, if_neg cz, if_neg cz]; simp
  have im0 : ∀ z, (fun y : Nat → Int => fun j => if j < m then gz_i n t y j else 0) (fun _ => 0) z = 0 := fun z => by
    show (if z < m then gz_i n t (fun _ => 0) z else 0) = 0
    split
    · exact mt_s_0 (fun i _ => Int.zero_mul _)
    · rfl
  have imE : ∀ i, i < n → ∀ z, (if z < m then gz_i n t (gd_E i) z else 0) = if z < m then t i z else 0 := fun i hi z => by
    by_cases cz : z < m
    · rw [if_pos cz, if_pos cz]
      show mt_s (fun k => gd_E i k * t k z) n = _
      rw [mt_s_one (q := i) hi (fun k _ hk => by rw [gd_En hk, Int.zero_mul]), gd_Ei, Int.one_mul]
    · rw [if_neg cz, if_neg cz]
  have ut : ∀ i, i < n → mt_sp m (gx_R m H) (fun z => if z < m then t i z else 0) := fun i hi => (gz_R (y := gd_E i) hH.1 s2).cg (fun z => (imE i hi z).symm)
  obtain ⟨k1, k2, k3, k4⟩ := co_two (m := m) (n := n) (ρ := cg_rk (gx_R m H) m) (R := gx_R m H) (O := O) (N := gx_N m n H) (h := fun k j => if j < n then H (co_l (gx_R m H) m k) (m + j) else 0) (u := fun i => co (gx_R m H) m (fun z => if z < m then t i z else 0)) (D := fun y : Nat → Int => fun j => if j < m then gz_i n t y j else 0) hR rfl iml im0 (fun i hi => gz_RO hH.1 hOz s2 hi) (fun i hi z => (co.P hR (ut i hi) z).trans (imE i hi z).symm) (fun i j hj => if_neg (by omega)) (fun k hk => by
      obtain ⟨p, p1, -, -, p4⟩ := co_l.of m hk
      rw [p4]
      refine (gz_A hOz s1 (mt_sp.row (X := H) (show p < m + n by omega))).cg (fun j => ?_)
      show _ - (if j < m then gz_i n t (fun j => if j < n then H p (m + j) else 0) j else 0) = _
      by_cases cj : j < m
      · rw [if_pos cj, if_pos cj, show gx_R m H p j = H p j from if_pos ⟨p1, cj⟩]
        unfold gz_i
        rw [mt_s_cg (f := fun i => (if i < n then H p (m + i) else 0) * t i j) (g := fun i => H p (m + i) * t i j) (fun i hi => by rw [if_pos hi])]
      · rw [if_neg cj, if_neg cj, show gx_R m H p j = 0 from if_neg (fun h => cj h.2)]; rfl) (fun k j hj => if_neg (by omega)) (fun i hi => by
      refine ((gz_A hOz s1 (mt_sp.row (X := H) (show m + i < m + n by omega))).mul (-1)).cg (fun j => ?_)
      show (if j < m then gz_i n t (gx_N m n H i) j else 0) = _
      by_cases cj : j < m
      · rw [if_pos cj, if_pos cj, hH.1 (m + i) j (by omega) (by omega)]
        unfold gz_i
        rw [mt_s_cg (f := fun l => gx_N m n H i l * t l j) (g := fun l => H (m + i) (m + l) * t l j) (fun l hl => by rw [show gx_N m n H i l = H (m + i) (m + l) from if_pos ⟨hi, hl⟩])]
        show mt_s (fun l => H (m + i) (m + l) * t l j) n = -1 * (0 - mt_s (fun l => H (m + i) (m + l) * t l j) n)
        omega
      · rw [if_neg cj, if_neg cj]; rfl) (fun i j hj => gx_N.z hH i j (Or.inr hj)) (fun y hy hD => gz_N hH.ec s2 hy hOz hD)
  have eM : ∀ i, i < m → (fun i => co (gx_R m H) m (O i)) i = cj_M (gx_R m H) O m i := fun i hi => funext fun j => by unfold cj_M; rw [if_pos hi]
  refine iy_same (ρ := cg_rk (gx_R m H) m) (n := n) (t := n) (s := m) (K := gx_N m n H) (O := cj_M (gx_R m H) O m) (h := fun k j => if j < n then H (co_l (gx_R m H) m k) (m + j) else 0) (u := fun i => co (gx_R m H) m (fun z => if z < m then t i z else 0)) hr3 hn (fun k j hj => if_neg (by omega)) (fun i j hj => if_neg (by omega)) (fun k hk => mt_sp.cgX eM (k1 k hk)) (fun i hi => mt_sp.cgX eM (k2 i hi)) (fun i hi => ?_) k4 (fun i j hj => gx_N.z hH i j (Or.inr hj)) (fun i j hj => ?_) (fun i hi j => if_neg (by omega)) (fun i hi j => ?_) hr hs c c'
  · refine (k3 i hi).cg (fun j => mt_s_cg (fun k _ => ?_))
    rw [← eM i hi]
  · unfold cj_M
    split
    · exact if_neg (by omega)
    · rfl
  · unfold cj_M; rw [if_neg (by omega)]

/-! ===== the class: own rows come; what a map makes in memory ===== -/
def gx_Qo (H : Nat → Nat → Int) (v : Nat → Int) (r : Nat) (i : Nat) (B : Nat → Nat → Int) (u : Nat → Int) : Prop := B = H ∧ u = v ∧ (i ≤ r ∨ ∀ j, v j = 0)
theorem mt_rf.same {w : Nat} {H : Nat → Nat → Int} {v : Nat → Int} (h : ∀ k, k < w → H k k ≠ 0 → v k = 0) (f : Nat) : ∀ n, f + n ≤ w → mt_rf H f n v = v := by
  intro n
  induction n with
  | zero => exact fun _ => rfl
  | succ n ih =>
    intro hn
    funext j
    show (if H (f + n) (f + n) = 0 then mt_rf H f n v j else mt_rf H f n v j - (mt_rf H f n v (f + n) / H (f + n) (f + n)) * H (f + n) j) = _
    rw [ih (by omega)]
    split
    · rfl
    · rename_i c
      rw [h _ (by omega) c, Int.zero_ediv, Int.zero_mul, Int.sub_zero]
/-- own rows so far -/
def gx_Ho (r : Nat) (O : Nat → Nat → Int) : Nat → Nat → Int := fun k j => if k < r then O k j else 0
theorem gx_Ho.hn {m w r : Nat} {O : Nat → Nat → Int} (hO : mt_hn m O) (hr : r ≤ m) (hw : m ≤ w) : mt_hn w (gx_Ho r O) := by
  refine ⟨fun k j _ hj => ?_, fun k _ => ?_, fun k _ h j => ?_, fun k q hkq hq h => ?_, fun k j _ hj => ?_⟩
  · unfold gx_Ho; split
    · exact hO.1 k j (by omega) hj
    · rfl
  · unfold gx_Ho; split
    · exact hO.2.1 k (by omega)
    · exact Int.le_refl _
  · unfold gx_Ho at h ⊢; split
    · rename_i c; rw [if_pos c] at h; exact hO.2.2.1 k (by omega) h j
    · rfl
  · unfold gx_Ho at h ⊢
    by_cases c : q < r
    · rw [if_pos c] at h; rw [if_pos c, if_pos (by omega)]; exact hO.2.2.2.1 k q hkq (by omega) h
    · rw [if_neg c] at h; exact absurd rfl h
  · unfold gx_Ho; split
    · exact hO.2.2.2.2 k j (by omega) (by omega)
    · rfl
theorem gx_Ho.nt {m n w r : Nat} {O t : Nat → Nat → Int} (hO : mt_hn m O) (hr : r ≤ m) (hw : m ≤ w) : (∀ k j, k < w → mt_nt w r (gx_X m n O t) k j = gx_Ho r O k j) ∧ mt_hn w (mt_nt w r (gx_X m n O t)) ∧ (∀ k, k < w → mt_sp r (gx_X m n O t) (mt_nt w r (gx_X m n O t) k)) ∧ ∀ i, i < r → mt_sp w (mt_nt w r (gx_X m n O t)) (gx_X m n O t i) := by
  have s1 : ∀ k, k < w → mt_sp r (gx_X m n O t) (gx_Ho r O k) := fun k _ => by
    by_cases c : k < r
    · refine (mt_sp.row (X := gx_X m n O t) c).cg (fun j => ?_)
      rw [gx_X.o (by omega)]; unfold gx_Ho; rw [if_pos c]
    · exact mt_sp.zero.cg (fun j => by unfold gx_Ho; rw [if_neg c])
  have s2 : ∀ i, i < r → mt_sp w (gx_Ho r O) (gx_X m n O t i) := fun i hi => by
    refine (mt_sp.row (X := gx_Ho r O) (show i < w by omega)).cg (fun j => ?_)
    rw [gx_X.o (by omega)]; unfold gx_Ho; rw [if_pos hi]
  have h := gx_Ho.hn hO hr hw
  exact ⟨fun k j hk => (mt_nt.eq h s1 s2 k hk j).symm, mt_nt.of h s1 s2⟩
theorem gx_Jo {m w r : Nat} {H O : Nat → Nat → Int} (hO : mt_hn m O) (hr : r < m) (hw : m ≤ w) (hok : ∀ k, k < m → mt_ok (O k k)) (hH : ∀ k j, H k j = gx_Ho r O k j) : mt_J (gx_Qo H (O r) r) w := by
  have eH : H = gx_Ho r O := funext fun k => funext fun j => hH k j
  subst eH
  have hl : ∀ k, k < w → gx_Ho r O k k ≠ 0 → O r k = 0 := fun k _ hne => by
    unfold gx_Ho at hne
    by_cases c : k < r
    · exact hO.1 r k hr c
    · rw [if_neg c] at hne; exact absurd rfl hne
  have okH : ∀ k, k < w → mt_ok (gx_Ho r O k k) := fun k _ => by
    unfold gx_Ho
    split
    · exact hok k (by omega)
    · exact mt_ok0
  refine ⟨fun i B v hi hB hv hQ => ?_, fun B v hB hQ => ?_⟩
  · obtain ⟨rfl, rfl, h3⟩ := hQ
    have e : ∀ n, i + n ≤ w → mt_rf (gx_Ho r O) i n (O r) = O r := fun n hn => mt_rf.same hl i n hn
    rw [e (w - i) (by omega)]
    refine ⟨okH, fun m' hm' hne => ?_, ?_, fun hz => ⟨rfl, rfl, ?_⟩, fun hne hz => ?_, fun hne hnz => ?_⟩
    · rw [e m' (by omega), hl _ (by omega) hne]; exact mt_ok0
    · rcases h3 with h | h
      · by_cases c : i = r
        · rw [c]; exact hok r hr
        · rw [hO.1 r i hr (by omega)]; exact mt_ok0
      · rw [h i]; exact mt_ok0
    · rcases h3 with h | h
      · by_cases c : i = r
        · exact Or.inr (fun j => hO.2.2.1 r hr (by rw [c] at hz; exact hz) j)
        · exact Or.inl (by omega)
      · exact Or.inr h
    · have ei : i = r := by
        rcases h3 with h | h
        · apply Classical.byContradiction
          intro c; exact hne (hO.1 r i hr (by omega))
        · exact absurd (h i) hne
      subst ei
      have hpos : 0 < O i i := by have := hO.2.1 i hr; omega
      have eT : mt_set (gx_Ho i O) i (fun j => (if O i i < 0 then -1 else 1) * O i j) = gx_Ho (i + 1) O := by
        funext k j
        by_cases c : k = i
        · subst c
          rw [mt_set_i, if_neg (by omega), Int.one_mul]
          unfold gx_Ho; rw [if_pos (by omega)]
        · rw [mt_set_n c]
          unfold gx_Ho
          by_cases d : k < i
          · rw [if_pos d, if_pos (by omega)]
          · rw [if_neg d, if_neg (by omega)]
      rw [eT]
      refine (gx_Ho.hn hO (by omega) hw).Pd (fun k hk => ?_)
      unfold gx_Ho
      split
      · exact hok k (by omega)
      · exact mt_ok0
    · exact absurd (hl i hi hnz) hne
  · obtain ⟨rfl, rfl, -⟩ := hQ
    exact (gx_Ho.hn hO (by omega) hw).Pd okH
/-- the row q comes to the Lattice at b -/
theorem gx_inr {Q : Nat → (Nat → Nat → Int) → (Nat → Int) → Prop} {b w r q : Nat} {X : Nat → Nat → Int} {L : ax_L} (hw : w ≤ 6) (hJ : mt_J Q w) (hX : ∀ r j, w ≤ j → X r j = 0) (hN : mt_hn w (mt_nt w r X) ∧ (∀ k, k < w → mt_sp r X (mt_nt w r X k)) ∧ ∀ i, i < r → mt_sp w (mt_nt w r X) (X i)) (hQ : Q 0 (mt_nt w r X) (X r)) (hL : mt_lat L b (mt_nt w r X)) (hq : q < b + 2 ∨ b + 8 < q) (hc : ∀ j, j < w → L q j = Int64.ofInt (X r j)) :
    mt_lat (ax_inr b w q L) b (mt_nt w (r + 1) X) ∧ (mt_hn w (mt_nt w (r + 1) X) ∧ (∀ k, k < w → mt_sp (r + 1) X (mt_nt w (r + 1) X k)) ∧ ∀ i, i < r + 1 → mt_sp w (mt_nt w (r + 1) X) (X i)) ∧ ∀ x, (x < b + 2 ∨ b + 8 < x) → ax_inr b w q L x = L x := by
  obtain ⟨h1, h2, h3⟩ := mt_insert (b := b) (L := ax_cp L q (b + 8) 0 0 w) hw hJ hX hN hQ (fun k j hk hj => by rw [ax_cp_ne (by omega)]; exact hL k j hk hj) (fun j hj => by
    rw [ax_cp_eq]
    unfold va_cpy
    rw [if_pos (by omega)]
    rw [show 0 + (j - 0) = j by omega]
    exact hc j hj)
  exact ⟨h1, h2, fun x hx => (h3 x hx).trans (ax_cp_ne (by omega))⟩

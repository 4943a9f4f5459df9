/-! ===== the reference: one, chain, sum ===== -/
/-- the byte at p, or -1 -/
def ax_vl (T : Nat → Int32) (c p : Nat) : Int32 := if p < c then T p else -1
theorem ax_vl_lt {T : Nat → Int32} {c p : Nat} {s t : Int64} {x : Int32} (h : ax_in3 (ax_vl T c p - x).toInt64 s t = true) (hx : ax_in3 (-1 - x).toInt64 s t = false) : p < c := by
  rcases Nat.lt_or_ge p c with q | q
  · exact q
  · unfold ax_vl at h; rw [if_neg (by omega), hx] at h; cases h
theorem ax_tk_lt {T : Nat → Int32} {c h : Nat} {wr : Bool} {sg : Int32} (hs : ¬ sg = -1) (ht : ax_tk T c h wr sg = true) : wr = false ∧ ax_nx T (c - h) h < c := by
  unfold ax_tk at ht
  cases wr with
  | true => cases ht
  | false =>
    refine ⟨rfl, ?_⟩
    rcases Nat.lt_or_ge (ax_nx T (c - h) h) c with q | q
    · exact q
    · rw [if_neg (by omega), decide_eq_false (fun z => hs z.symm)] at ht; cases ht
theorem ax_tkh_le (T : Nat → Int32) (c : Nat) {h : Nat} (wr : Bool) (sg : Int32) (hh : h ≤ c) : h ≤ ax_tkh T c h wr sg ∧ (¬ sg = -1 → ax_tkh T c h wr sg ≤ c) ∧ (ax_tk T c h wr sg = true → h + 1 ≤ ax_tkh T c h wr sg) := by
  have h1 := ax_nx_le T (c - h) h
  unfold ax_tkh
  cases wr with
  | true => exact ⟨Nat.le_refl _, fun _ => hh, fun q => by cases q⟩
  | false =>
    cases ht : ax_tk T c h false sg with
    | true => exact ⟨by show h ≤ _ + 1; omega, fun hs => by have := (ax_tk_lt hs ht).2; show _ + 1 ≤ c; omega, fun _ => by show h + 1 ≤ _ + 1; omega⟩
    | false => exact ⟨by show h ≤ _ + 0; omega, fun _ => by show _ + 0 ≤ c; omega, fun q => by cases q⟩
theorem ax_TI_b {m h k k2 op : Nat} {wr : Bool} {cd cd2 : Nat → Int32} {I : ax_I} : (bif wr then ax_TI m h k op wr cd I else ax_TI m h k2 op wr cd2 I) = ax_TI m h (bif wr then k else k2) op wr (bif wr then cd else cd2) I := by cases wr <;> rfl
theorem ax_bif_le (b : Bool) (k : Nat) : (bif b then k else k + 1) ≤ k + 1 := by cases b <;> simp
/-- where a text stands: here, codes, wrong, the code -/
abbrev ax_TS : Type := Nat × Nat × Bool × (Nat → Int32)
def ax_lay (x : Int32) (s : ax_TS) : ax_TS := (s.1, (bif s.2.2.1 then s.2.1 else s.2.1 + 1), s.2.2.1, (bif s.2.2.1 then s.2.2.2 else ax_cdu s.2.2.2 s.2.1 x))
abbrev ax_n1 (T : Nat → Int32) (c h : Nat) : Nat := ax_nx T (c - h) h
/-- one: what stands first, less '0'; behind it; what stands then, less 'a' -/
abbrev ax_1m (T : Nat → Int32) (c h : Nat) : Int32 := ax_vl T c (ax_n1 T c h) - nI 48
abbrev ax_1t (T : Nat → Int32) (c h : Nat) : Bool := ax_in3 (ax_1m T c h).toInt64 0 9
abbrev ax_1f (T : Nat → Int32) (c h1 : Nat) : Int32 := ax_vl T c (ax_n1 T c h1) - nI 97
/-- behind the times, h1 where it stands: the map or what stands in brackets -/
def ax_1b (T : Nat → Int32) (c op : Nat) (sub : ax_TS → Option ax_TS) (h1 : Nat) (s : Nat × Bool × (Nat → Int32)) : Option ax_TS :=
  bif ax_in3 (ax_1f T c h1).toInt64 0 7 then some (ax_lay (ax_1f T c h1) (ax_n1 T c h1 + 1, s))
  else bif decide (op < 4) then
    (bif ax_tk T c (ax_n1 T c h1) s.2.1 (nI 40) then (sub (ax_tkh T c (ax_n1 T c h1) s.2.1 (nI 40), s)).map fun u => bif u.2.2.1 then u else (ax_tkh T c u.1 u.2.2.1 (nI 41), u.2.1, !ax_tk T c u.1 u.2.2.1 (nI 41), u.2.2.2)
    else some (ax_tkh T c (ax_n1 T c h1) s.2.1 (nI 40), s.1, true, s.2.2))
  else some (ax_n1 T c h1, s.1, true, s.2.2)
/-- one (0), chain (1), its loop (2), sum (3), its loop (4) -/
def ax_tx (T : Nat → Int32) (c : Nat) : Nat → Nat → Nat → ax_TS → Option ax_TS
  | 0, _, _, _ => none
  | n + 1, 0, op, s => bif ax_1t T c s.1 then (ax_1b T c op (ax_tx T c n 3 (op + 1)) (ax_n1 T c s.1 + 1) s.2).map (ax_lay (nI 20 + ax_1m T c s.1)) else ax_1b T c op (ax_tx T c n 3 (op + 1)) (ax_n1 T c s.1 + 0) s.2
  | n + 1, 1, op, s => (ax_tx T c n 0 op s).bind (ax_tx T c n 2 op)
  | n + 1, 2, op, s => bif ax_tk T c s.1 s.2.2.1 (nI 46) then (ax_tx T c n 0 op (ax_tkh T c s.1 s.2.2.1 (nI 46), s.2)).bind fun u => ax_tx T c n 2 op (ax_lay (nI 40) u) else some (ax_tkh T c s.1 s.2.2.1 (nI 46), s.2)
  | n + 1, 3, op, s => (ax_tx T c n 1 op (ax_tkh T c s.1 s.2.2.1 (nI 45), s.2)).bind fun u => ax_tx T c n 4 op (bif ax_tk T c s.1 s.2.2.1 (nI 45) then ax_lay (nI 43) u else u)
  | n + 1, _, op, s => bif s.2.2.1 then some s else
      (if ax_vl T c (ax_n1 T c s.1) = nI 43 then (ax_tx T c n 1 op (ax_n1 T c s.1 + 1, s.2)).bind fun u => ax_tx T c n 4 op (ax_lay (nI 41) u)
      else if ax_vl T c (ax_n1 T c s.1) = nI 45 then (ax_tx T c n 1 op (ax_n1 T c s.1 + 1, s.2)).bind fun u => ax_tx T c n 4 op (ax_lay (nI 42) u)
      else some (ax_n1 T c s.1, s.2))
/-- what is read grows, and no more codes are laid than bytes are read -/
def ax_Gr (c : Nat) (s u : ax_TS) : Prop := s.1 ≤ u.1 ∧ u.1 ≤ c ∧ u.2.1 + s.1 ≤ s.2.1 + u.1
theorem ax_Gr.trans {c : Nat} {s u v : ax_TS} (h1 : ax_Gr c s u) (h2 : ax_Gr c u v) : ax_Gr c s v := ⟨by have := h1.1; have := h2.1; omega, h2.2.1, by have := h1.2.2; have := h2.2.2; omega⟩
theorem ax_lay_k (x : Int32) (s : ax_TS) : (ax_lay x s).2.1 ≤ s.2.1 + 1 := by show (bif _ then _ else _) ≤ _; cases s.2.2.1 <;> simp
theorem ax_1b_gr {T : Nat → Int32} {c op h1 : Nat} {sub : ax_TS → Option ax_TS} {s : Nat × Bool × (Nat → Int32)} {u : ax_TS} (hs : ∀ a b, a.1 ≤ c → sub a = some b → ax_Gr c a b) (hh : h1 ≤ c) (h : ax_1b T c op sub h1 s = some u) : ax_Gr c (h1, s) u := by
  have hn := ax_nx_le T (c - h1) h1
  have hn1 : ax_n1 T c h1 = ax_nx T (c - h1) h1 := rfl
  unfold ax_1b at h
  cases hm : ax_in3 (ax_1f T c h1).toInt64 0 7 with
  | true =>
    rw [hm] at h
    have hlt := ax_vl_lt hm (by decide)
    cases h
    have := ax_lay_k (ax_1f T c h1) (ax_n1 T c h1 + 1, s)
    refine ⟨?_, ?_, ?_⟩
    · show h1 ≤ ax_n1 T c h1 + 1; omega
    · show ax_n1 T c h1 + 1 ≤ c; omega
    · show (ax_lay (ax_1f T c h1) (ax_n1 T c h1 + 1, s)).2.1 + h1 ≤ s.1 + (ax_n1 T c h1 + 1)
      have h2 : (ax_n1 T c h1 + 1, s).2.1 = s.1 := rfl
      omega
  | false =>
    rw [hm] at h
    have hk := ax_tkh_le T c (h := ax_n1 T c h1) s.2.1 (nI 40) (by omega)
    have hk1 := hk.1
    have hk2 := hk.2.1 (by decide)
    cases ho : decide (op < 4) with
    | false => rw [ho] at h; cases h; exact ⟨by show h1 ≤ ax_n1 T c h1; omega, by show ax_n1 T c h1 ≤ c; omega, by show s.1 + h1 ≤ s.1 + ax_n1 T c h1; omega⟩
    | true =>
      rw [ho] at h
      cases ht : ax_tk T c (ax_n1 T c h1) s.2.1 (nI 40) with
      | false => rw [ht] at h; cases h; exact ⟨by show h1 ≤ ax_tkh _ _ _ _ _; omega, by show ax_tkh _ _ _ _ _ ≤ c; omega, by show s.1 + h1 ≤ s.1 + ax_tkh _ _ _ _ _; omega⟩
      | true =>
        rw [ht] at h
        obtain ⟨v, hv, e⟩ := Option.map_eq_some_iff.mp h
        have hg := hs _ _ hk2 hv
        have g1 : ax_tkh T c (ax_n1 T c h1) s.2.1 (nI 40) ≤ v.1 := hg.1
        have g2 := hg.2.1
        have g3 : v.2.1 + ax_tkh T c (ax_n1 T c h1) s.2.1 (nI 40) ≤ s.1 + v.1 := hg.2.2
        have hc := ax_tkh_le T c (h := v.1) v.2.2.1 (nI 41) g2
        have hc1 := hc.1
        have hc2 := hc.2.1 (by decide)
        cases hw : v.2.2.1 with
        | true => rw [hw] at e; cases e; exact ⟨by show h1 ≤ v.1; omega, g2, by show v.2.1 + h1 ≤ s.1 + v.1; omega⟩
        | false => rw [hw] at e hc1 hc2; cases e; exact ⟨by show h1 ≤ ax_tkh T c v.1 false (nI 41); omega, hc2, by show v.2.1 + h1 ≤ s.1 + ax_tkh T c v.1 false (nI 41); omega⟩
theorem ax_tx_gr {T : Nat → Int32} {c : Nat} : ∀ {n tag op : Nat} {s u : ax_TS}, s.1 ≤ c → ax_tx T c n tag op s = some u → ax_Gr c s u := by
  intro n
  induction n with
  | zero => intro tag op s u _ h; cases h
  | succ n ih =>
    intro tag op s u hs h
    have hn := ax_nx_le T (c - s.1) s.1
    have hn1 : ax_n1 T c s.1 = ax_nx T (c - s.1) s.1 := rfl
    match tag, h with
    | 0, h =>
      have h2 : (bif ax_1t T c s.1 then (ax_1b T c op (ax_tx T c n 3 (op + 1)) (ax_n1 T c s.1 + 1) s.2).map (ax_lay (nI 20 + ax_1m T c s.1)) else ax_1b T c op (ax_tx T c n 3 (op + 1)) (ax_n1 T c s.1 + 0) s.2) = some u := h
      cases ht : ax_1t T c s.1 with
      | true =>
        rw [ht] at h2
        have hlt := ax_vl_lt ht (by decide)
        obtain ⟨v, hv, e⟩ := Option.map_eq_some_iff.mp h2
        have g := ax_1b_gr (fun a b ha hb => ih ha hb) (by omega) hv
        have g1 : ax_n1 T c s.1 + 1 ≤ v.1 := g.1
        have g3 : v.2.1 + (ax_n1 T c s.1 + 1) ≤ s.2.1 + v.1 := g.2.2
        have := ax_lay_k (nI 20 + ax_1m T c s.1) v
        subst e
        exact ⟨by show s.1 ≤ v.1; omega, g.2.1, by show (ax_lay _ v).2.1 + s.1 ≤ s.2.1 + v.1; omega⟩
      | false =>
        rw [ht] at h2
        have g := ax_1b_gr (fun a b ha hb => ih ha hb) (by omega) h2
        have g1 : ax_n1 T c s.1 + 0 ≤ u.1 := g.1
        have g3 : u.2.1 + (ax_n1 T c s.1 + 0) ≤ s.2.1 + u.1 := g.2.2
        exact ⟨by omega, g.2.1, by omega⟩
    | 1, h =>
      obtain ⟨v, hv, e⟩ := Option.bind_eq_some_iff.mp h
      have g := ih hs hv
      exact g.trans (ih g.2.1 e)
    | 2, h =>
      have h2 : (bif ax_tk T c s.1 s.2.2.1 (nI 46) then (ax_tx T c n 0 op (ax_tkh T c s.1 s.2.2.1 (nI 46), s.2)).bind fun u => ax_tx T c n 2 op (ax_lay (nI 40) u) else some (ax_tkh T c s.1 s.2.2.1 (nI 46), s.2)) = some u := h
      have hk := ax_tkh_le T c (h := s.1) s.2.2.1 (nI 46) hs
      have hk1 := hk.1
      have hk2 := hk.2.1 (by decide)
      cases ht : ax_tk T c s.1 s.2.2.1 (nI 46) with
      | true =>
        rw [ht] at h2
        have hk3 := hk.2.2 ht
        obtain ⟨v, hv, e⟩ := Option.bind_eq_some_iff.mp h2
        have g := ih (s := (ax_tkh T c s.1 s.2.2.1 (nI 46), s.2)) hk2 hv
        have g1 : ax_tkh T c s.1 s.2.2.1 (nI 46) ≤ v.1 := g.1
        have g3 : v.2.1 + ax_tkh T c s.1 s.2.2.1 (nI 46) ≤ s.2.1 + v.1 := g.2.2
        have hl := ax_lay_k (nI 40) v
        have gl : ax_Gr c s (ax_lay (nI 40) v) := ⟨by show s.1 ≤ v.1; omega, g.2.1, by show (ax_lay _ v).2.1 + s.1 ≤ s.2.1 + v.1; omega⟩
        exact gl.trans (ih gl.2.1 e)
      | false =>
        rw [ht] at h2
        cases h2
        exact ⟨hk1, hk2, by show s.2.1 + s.1 ≤ s.2.1 + ax_tkh _ _ _ _ _; omega⟩
    | 3, h =>
      obtain ⟨v, hv, e⟩ := Option.bind_eq_some_iff.mp h
      have hk := ax_tkh_le T c (h := s.1) s.2.2.1 (nI 45) hs
      have hk1 := hk.1
      have hk2 := hk.2.1 (by decide)
      have g := ih (s := (ax_tkh T c s.1 s.2.2.1 (nI 45), s.2)) hk2 hv
      have g1 : ax_tkh T c s.1 s.2.2.1 (nI 45) ≤ v.1 := g.1
      have g3 : v.2.1 + ax_tkh T c s.1 s.2.2.1 (nI 45) ≤ s.2.1 + v.1 := g.2.2
      cases ht : ax_tk T c s.1 s.2.2.1 (nI 45) with
      | true =>
        have hk3 := hk.2.2 ht
        have e2 : ax_tx T c n 4 op (ax_lay (nI 43) v) = some u := by have e3 := e; rw [ht] at e3; exact e3
        have hl := ax_lay_k (nI 43) v
        have gl : ax_Gr c s (ax_lay (nI 43) v) := ⟨by show s.1 ≤ v.1; omega, g.2.1, by show (ax_lay _ v).2.1 + s.1 ≤ s.2.1 + v.1; omega⟩
        exact gl.trans (ih gl.2.1 e2)
      | false =>
        have e2 : ax_tx T c n 4 op v = some u := by have e3 := e; rw [ht] at e3; exact e3
        have gl : ax_Gr c s v := ⟨by omega, g.2.1, by omega⟩
        exact gl.trans (ih gl.2.1 e2)
    | t + 4, h =>
      have h2 : (bif s.2.2.1 then some s else (if ax_vl T c (ax_n1 T c s.1) = nI 43 then (ax_tx T c n 1 op (ax_n1 T c s.1 + 1, s.2)).bind fun u => ax_tx T c n 4 op (ax_lay (nI 41) u) else if ax_vl T c (ax_n1 T c s.1) = nI 45 then (ax_tx T c n 1 op (ax_n1 T c s.1 + 1, s.2)).bind fun u => ax_tx T c n 4 op (ax_lay (nI 42) u) else some (ax_n1 T c s.1, s.2))) = some u := h
      cases hw : s.2.2.1 with
      | true => rw [hw] at h2; cases h2; exact ⟨Nat.le_refl _, hs, Nat.le_refl _⟩
      | false =>
        rw [hw] at h2
        have key : ∀ x : Int32, ax_n1 T c s.1 < c → ((ax_tx T c n 1 op (ax_n1 T c s.1 + 1, s.2)).bind fun u => ax_tx T c n 4 op (ax_lay x u)) = some u → ax_Gr c s u := by
          intro x hlt hx
          obtain ⟨v, hv, e⟩ := Option.bind_eq_some_iff.mp hx
          have g := ih (s := (ax_n1 T c s.1 + 1, s.2)) hlt hv
          have g1 : ax_n1 T c s.1 + 1 ≤ v.1 := g.1
          have g3 : v.2.1 + (ax_n1 T c s.1 + 1) ≤ s.2.1 + v.1 := g.2.2
          have hl := ax_lay_k x v
          have gl : ax_Gr c s (ax_lay x v) := ⟨by show s.1 ≤ v.1; omega, g.2.1, by show (ax_lay _ v).2.1 + s.1 ≤ s.2.1 + v.1; omega⟩
          exact gl.trans (ih gl.2.1 e)
        have hlt : ∀ x : Int32, ¬ x = -1 → ax_vl T c (ax_n1 T c s.1) = x → ax_n1 T c s.1 < c := by
          intro x hx e
          rcases Nat.lt_or_ge (ax_n1 T c s.1) c with q | q
          · exact q
          · unfold ax_vl at e; rw [if_neg (by omega)] at e; exact absurd e.symm hx
        by_cases h43 : ax_vl T c (ax_n1 T c s.1) = nI 43
        · have h3 := h2
          rw [if_pos h43] at h3
          exact key _ (hlt _ (by decide) h43) h3
        · by_cases h45 : ax_vl T c (ax_n1 T c s.1) = nI 45
          · have h3 := h2
            rw [if_neg h43, if_pos h45] at h3
            exact key _ (hlt _ (by decide) h45) h3
          · have h3 := h2
            rw [if_neg h43, if_neg h45] at h3
            cases h3
            exact ⟨by show s.1 ≤ ax_n1 T c s.1; omega, by show ax_n1 T c s.1 ≤ c; omega, by show s.2.1 + s.1 ≤ s.2.1 + ax_n1 T c s.1; omega⟩

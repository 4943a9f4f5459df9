/-! ===== text: both read the same ===== -/
theorem t_take {W T : Nat → Int32} {c h m : Nat} (hT : tT W T c) (hh : h ≤ c) (hm : m < 128) : ax_tk W c h false (nI m) = ax_tk T c h false (nI m) ∧ ax_tkh W c h false (nI m) = ax_tkh T c h false (nI m) ∧ h ≤ ax_tkh T c h false (nI m) ∧ ax_tkh T c h false (nI m) ≤ c ∧ (ax_tk T c h false (nI m) = true → h + 1 ≤ ax_tkh T c h false (nI m)) := by
  obtain ⟨n3, hn3, v3, w3, z3⟩ := t_v hT (ax_nx T (c - h) h)
  have hle := ax_nx_le T (c - h) h
  have nW : ax_nx W (c - h) h = ax_nx T (c - h) h := t_nx hT (c - h) h (by omega)
  have ek := t_eqs n3 hn3 m hm
  have tkT : ax_tk T c h false (nI m) = decide (n3 = m) := by
    rw [t_tk, w3]
    by_cases cc : n3 = m
    · rw [decide_eq_true cc, decide_eq_true (ek.2.mpr cc)]
    · rw [decide_eq_false cc, decide_eq_false (fun h => cc (ek.2.mp h))]
  have tkW : ax_tk W c h false (nI m) = decide (n3 = m) := by
    rw [t_tk, nW, v3]
    by_cases cc : n3 = m
    · rw [decide_eq_true cc, decide_eq_true (ek.1.mpr cc)]
    · rw [decide_eq_false cc, decide_eq_false (fun h => cc (ek.1.mp h))]
  have eT : ax_tkh T c h false (nI m) = ax_nx T (c - h) h + (bif decide (n3 = m) then 1 else 0) := by unfold ax_tkh; rw [tkT]; rfl
  have eW : ax_tkh W c h false (nI m) = ax_nx T (c - h) h + (bif decide (n3 = m) then 1 else 0) := by unfold ax_tkh; rw [tkW, nW]; rfl
  refine ⟨by rw [tkW, tkT], by rw [eW, eT], ?_⟩
  rw [eT, tkT]
  by_cases cc : n3 = m
  · have : ¬ c ≤ ax_nx T (c - h) h := fun q => by have := z3.mpr q; omega
    rw [decide_eq_true cc]
    exact ⟨by show h ≤ _ + 1; omega, by show _ + 1 ≤ c; omega, fun _ => by show h + 1 ≤ _ + 1; omega⟩
  · rw [decide_eq_false cc]
    exact ⟨by show h ≤ _ + 0; omega, by show _ + 0 ≤ c; omega, fun q => by cases q⟩
theorem tQ.comp {F T' : Nat → Int32} {B : Nat → Nat → Int64} {x n δ δ' k k1 : Nat} {cd cd1 : Nat → Int32} {S' : ax_ZS} {u : ax_TS} (h : tQ F T' B x n δ' k1 cd1 S' u) (hP : tP F T' B k cd k1 cd1) (hd : (t_run F T' B cd1 k1).1 + δ' = (t_run F T' B cd k).1 + δ) (hst : ∀ i, i + 1 < (t_run F T' B cd k).1 + δ → (t_run F T' B cd1 k1).2.1 i = (t_run F T' B cd k).2.1 i) : tQ F T' B x n δ k cd S' u := by
  obtain ⟨h1, h2, h3⟩ := h
  refine ⟨h1, h2, fun hw => ?_⟩
  obtain ⟨g1, g2, g3, g4, g5⟩ := h3 hw
  exact ⟨hP.trans g1, by rw [g2, hd], fun i hi => by rw [g3 i (by omega), hst i hi], g4, by rw [hd] at g5; exact g5⟩
/-- what was read told more codes -/
theorem tP.lt {F T' : Nat → Int32} {B : Nat → Nat → Int64} {k k1 : Nat} {cd cd1 : Nat → Int32} (hP : tP F T' B k cd k1 cd1) (hd : (t_run F T' B cd1 k1).1 = (t_run F T' B cd k).1 + 1) : k + 1 ≤ k1 := by
  obtain ⟨h1, h2, -⟩ := hP
  apply Classical.byContradiction
  intro q
  have : k1 = k := by omega
  subst this
  rw [t_run_cg k1 h2] at hd
  omega
theorem t_lay1 {x : Int32} {h k : Nat} {cd : Nat → Int32} : ax_lay x (h, k, true, cd) = (h, k, true, cd) := rfl
theorem t_lay0 {x : Int32} {h k : Nat} {cd : Nat → Int32} : ax_lay x (h, k, false, cd) = (h, k + 1, false, ax_cdu cd k x) := rfl
theorem t_tx1 {T : Nat → Int32} {c N e : Nat} {s : ax_TS} : ax_tx T c (N + 1) 1 e s = (ax_tx T c N 0 e s).bind (ax_tx T c N 2 e) := rfl
theorem t_tx2 {T : Nat → Int32} {c N e : Nat} {s : ax_TS} : ax_tx T c (N + 1) 2 e s = bif ax_tk T c s.1 s.2.2.1 (nI 46) then (ax_tx T c N 0 e (ax_tkh T c s.1 s.2.2.1 (nI 46), s.2)).bind (fun u => ax_tx T c N 2 e (ax_lay (nI 40) u)) else some (ax_tkh T c s.1 s.2.2.1 (nI 46), s.2) := rfl
theorem t_tx2w {T : Nat → Int32} {c N e h k : Nat} {cd : Nat → Int32} : ax_tx T c (N + 1) 2 e (h, k, true, cd) = some (h, k, true, cd) := by rw [t_tx2]; rfl
theorem t_tx2f {T : Nat → Int32} {c N e h k : Nat} {cd : Nat → Int32} {u : ax_TS} (hx : ax_tx T c N 2 e (h, k, true, cd) = some u) : u.2.2.1 = true := by
  cases N with
  | zero => cases hx
  | succ N => rw [t_tx2w] at hx; have := Option.some.inj hx; rw [← this]
theorem t_tx3 {T : Nat → Int32} {c N e : Nat} {s : ax_TS} : ax_tx T c (N + 1) 3 e s = (ax_tx T c N 1 e (ax_tkh T c s.1 s.2.2.1 (nI 45), s.2)).bind (fun u => ax_tx T c N 4 e (bif ax_tk T c s.1 s.2.2.1 (nI 45) then ax_lay (nI 43) u else u)) := rfl
theorem t_tx4 {T : Nat → Int32} {c N e : Nat} {s : ax_TS} : ax_tx T c (N + 1) 4 e s = bif s.2.2.1 then some s else (if ax_vl T c (ax_nx T (c - s.1) s.1) = nI 43 then (ax_tx T c N 1 e (ax_nx T (c - s.1) s.1 + 1, s.2)).bind (fun u => ax_tx T c N 4 e (ax_lay (nI 41) u)) else if ax_vl T c (ax_nx T (c - s.1) s.1) = nI 45 then (ax_tx T c N 1 e (ax_nx T (c - s.1) s.1 + 1, s.2)).bind (fun u => ax_tx T c N 4 e (ax_lay (nI 42) u)) else some (ax_nx T (c - s.1) s.1, s.2)) := rfl
theorem t_tx4w {T : Nat → Int32} {c N e h k : Nat} {cd : Nat → Int32} : ax_tx T c (N + 1) 4 e (h, k, true, cd) = some (h, k, true, cd) := by rw [t_tx4]; rfl
theorem t_tx4f {T : Nat → Int32} {c N e h k : Nat} {cd : Nat → Int32} {u : ax_TS} (hx : ax_tx T c N 4 e (h, k, true, cd) = some u) : u.2.2.1 = true := by
  cases N with
  | zero => cases hx
  | succ N => rw [t_tx4w] at hx; have := Option.some.inj hx; rw [← this]
def tA0 (r c s : Nat) (W T F T' : Nat → Int32) (B : Nat → Nat → Int64) (N : Nat) : Prop := ∀ e, e ≤ 4 → ∀ (h k : Nat) (cd : Nat → Int32) (u : ax_TS) (S : ax_ZS), h ≤ c → ax_tx T c N 0 e (h, k, false, cd) = some u → S.1 = h → S.2.1 = false → tB s F T' B S → tfl S (t_run F T' B cd k) → (t_run F T' B cd k).1 ≤ 2 * e + 2 → tQ F T' B (r + (11 + 9 * e)) (r + (12 + 9 * e)) 1 k cd (tO r c s W e S) u
def tA1 (r c s : Nat) (W T F T' : Nat → Int32) (B : Nat → Nat → Int64) (N : Nat) : Prop := ∀ e, e ≤ 4 → ∀ (h k : Nat) (cd : Nat → Int32) (u : ax_TS) (S : ax_ZS), h ≤ c → ax_tx T c N 1 e (h, k, false, cd) = some u → S.1 = h → S.2.1 = false → tB s F T' B S → tfl S (t_run F T' B cd k) → (t_run F T' B cd k).1 ≤ 2 * e + 1 → tQ F T' B (r + (8 + 9 * e)) (r + (9 + 9 * e)) 1 k cd (tC r c s W e S) u
def tA2 (r c s : Nat) (W T F T' : Nat → Int32) (B : Nat → Nat → Int64) (N : Nat) : Prop := ∀ e, e ≤ 4 → ∀ (h k : Nat) (w : Bool) (cd : Nat → Int32) (u : ax_TS) (S : ax_ZS) (n j : Nat), h ≤ c → ax_tx T c N 2 e (h, k, w, cd) = some u → S.1 = h → S.2.1 = w → (w = false → c < h + n ∧ tB s F T' B S ∧ tfl S (t_run F T' B cd k) ∧ 1 ≤ (t_run F T' B cd k).1 ∧ (t_run F T' B cd k).1 ≤ 2 * e + 2 ∧ tc S.2.2.2.2.2.1 S.2.2.2.2.2.2 (r + (8 + 9 * e)) (r + (9 + 9 * e)) ((t_run F T' B cd k).2.1 ((t_run F T' B cd k).1 - 1))) → tQ F T' B (r + (8 + 9 * e)) (r + (9 + 9 * e)) 0 k cd (ax_chl r c e W (tO r c s W e) n j S) u
def tA3 (r c s : Nat) (W T F T' : Nat → Int32) (B : Nat → Nat → Int64) (N : Nat) : Prop := ∀ e, e ≤ 4 → ∀ (h k : Nat) (cd : Nat → Int32) (u : ax_TS) (S : ax_ZS), h ≤ c → ax_tx T c N 3 e (h, k, false, cd) = some u → S.1 = h → S.2.1 = false → tB s F T' B S → tfl S (t_run F T' B cd k) → (t_run F T' B cd k).1 ≤ 2 * e → tQ F T' B (r + (5 + 9 * e)) (r + (6 + 9 * e)) 1 k cd (tZ r c s W e S) u
def tA4 (r c s : Nat) (W T F T' : Nat → Int32) (B : Nat → Nat → Int64) (N : Nat) : Prop := ∀ e, e ≤ 4 → ∀ (h k : Nat) (w : Bool) (cd : Nat → Int32) (u : ax_TS) (S : ax_ZS) (n j : Nat), h ≤ c → ax_tx T c N 4 e (h, k, w, cd) = some u → S.1 = h → S.2.1 = w → (w = false → c < h + n ∧ tB s F T' B S ∧ tfl S (t_run F T' B cd k) ∧ 1 ≤ (t_run F T' B cd k).1 ∧ (t_run F T' B cd k).1 ≤ 2 * e + 1 ∧ tc S.2.2.2.2.2.1 S.2.2.2.2.2.2 (r + (5 + 9 * e)) (r + (6 + 9 * e)) ((t_run F T' B cd k).2.1 ((t_run F T' B cd k).1 - 1))) → tQ F T' B (r + (5 + 9 * e)) (r + (6 + 9 * e)) 0 k cd (ax_sul r c e W (tC r c s W e) n j S) u

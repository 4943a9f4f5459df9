/-! ===== objects that are built, by tables ===== -/
/-- a table: kind, length, references (place, how far from the object) of each cell from the object on -/
abbrev ax_Tb : Type := List (Nat × Nat × List (Nat × Nat))
def ax_addr (T : ax_Tb) (j k b : Nat) : ax_Tb := T.modify j (fun x => (x.1, x.2.1, (k, b) :: x.2.2))
def ax_shf (d : Nat) (T : ax_Tb) : ax_Tb := T.map fun x => (x.1, x.2.1, x.2.2.map fun q => (q.1, d + q.2))
def ax_At (G : ax_G) (a : Nat) (T : ax_Tb) : Prop := ∀ (j : Nat) (x : Nat × Nat × List (Nat × Nat)), T[j]? = some x → ax_K G (a + j) = x.1 ∧ ax_N G (a + j) = x.2.1 ∧ ∀ q ∈ x.2.2, ax_R G (a + j) q.1 = some (a + q.2)
def ax_Bt (G0 : ax_G) (I0 : ax_I) (L0 : ax_L) (a us : Nat) (T : ax_Tb) (C : List (Nat → Int32)) (G : ax_G) (I : ax_I) (L : ax_L) : Prop :=
  ax_top G = a + T.length ∧ ax_used G = us ∧ ax_At G a T ∧ (∀ b, b < a → ax_K G b = ax_K G0 b ∧ ax_N G b = ax_N G0 b ∧ ax_R G b = ax_R G0 b) ∧ (∀ b, b < a → I b = I0 b ∧ L b = L0 b) ∧ C.length = T.length ∧ (∀ (j : Nat) (f : Nat → Int32), C[j]? = some f → I (a + j) = f) ∧ (∀ j, j < T.length → L (a + j) = fun _ => 0)
section AXBT
variable {G0 G : ax_G} {I0 I : ax_I} {L0 L : ax_L} {a us : Nat} {T : ax_Tb} {C : List (Nat → Int32)}
/-- one cell more -/
theorem ax_Bt.new {k n sl : Nat} (h : ax_Bt G0 I0 L0 a us T C G I L) : ax_Bt G0 I0 L0 a (us + sl) (T ++ [(k, n, [])]) (C ++ [fun _ => 0]) (ax_new G k n sl) (ax_z I (ax_top G) 0) (ax_z L (ax_top G) 0) := by
  obtain ⟨h1, h2, h3, h4, h5, h6, h7, h8⟩ := h
  refine ⟨?_, ?_, ?_, ?_, ?_, ?_, ?_, ?_⟩
  · show ax_top G + 1 = _
    rw [List.length_append, h1]; rfl
  · show ax_used G + sl = _
    rw [h2]
  · intro j x hx
    rcases Nat.lt_trichotomy j T.length with q | q | q
    · rw [List.getElem?_append_left q] at hx
      have hne : a + j ≠ ax_top G := by omega
      rw [ax_new_Kne hne, ax_new_Nne hne, ax_new_Rne hne]
      exact h3 j x hx
    · subst q
      rw [List.getElem?_append_right (Nat.le_refl _), Nat.sub_self] at hx
      cases hx
      rw [← h1]
      exact ⟨ax_new_K G k n sl, ax_new_N G k n sl, fun q hq => by cases hq⟩
    · rw [List.getElem?_eq_none (by rw [List.length_append]; simp; omega)] at hx
      cases hx
  · intro b hb
    have hne : b ≠ ax_top G := by omega
    rw [ax_new_Kne hne, ax_new_Nne hne, ax_new_Rne hne]
    exact h4 b hb
  · intro b hb
    have hne : b ≠ ax_top G := by omega
    rw [ax_z_ne hne, ax_z_ne hne]
    exact h5 b hb
  · rw [List.length_append, List.length_append, h6]; rfl
  · intro j f hf
    rcases Nat.lt_trichotomy j C.length with q | q | q
    · rw [List.getElem?_append_left q] at hf
      rw [ax_z_ne (by omega)]
      exact h7 j f hf
    · subst q
      rw [List.getElem?_append_right (Nat.le_refl _), Nat.sub_self] at hf
      cases hf
      rw [h6, ← h1, ax_z_eq]
    · rw [List.getElem?_eq_none (by rw [List.length_append]; simp; omega)] at hf
      cases hf
  · intro j hj
    rw [List.length_append] at hj
    have hj : j < T.length + 1 := hj
    rcases Nat.eq_or_lt_of_le (Nat.le_of_lt_succ hj) with q | q
    · subst q; rw [← h1, ax_z_eq]
    · rw [ax_z_ne (by omega)]; exact h8 j q
/-- a reference is set -/
theorem ax_Bt.ref {j k b : Nat} {x : Nat × Nat × List (Nat × Nat)} (h : ax_Bt G0 I0 L0 a us T C G I L) (hx : T[j]? = some x) (hk : (x.2.2.all fun q => !(q.1 == k)) = true) : ax_Bt G0 I0 L0 a us (ax_addr T j k b) C (ax_gR G (a + j) k (some (a + b))) I L := by
  obtain ⟨h1, h2, h3, h4, h5, h6, h7, h8⟩ := h
  have hl : (ax_addr T j k b).length = T.length := List.length_modify ..
  have hj : j < T.length := (List.getElem?_eq_some_iff.mp hx).1
  refine ⟨by rw [hl]; exact h1, h2, ?_, ?_, h5, by rw [hl]; exact h6, h7, by rw [hl]; exact h8⟩
  · intro i y hy
    unfold ax_addr at hy
    rw [List.getElem?_modify] at hy
    show ax_K G (a + i) = _ ∧ ax_N G (a + i) = _ ∧ ∀ q ∈ y.2.2, ax_u (ax_R G) (a + j) k (some (a + b)) (a + i) q.1 = _
    by_cases hji : j = i
    · subst hji
      rw [hx] at hy
      have hy2 : (x.1, x.2.1, (k, b) :: x.2.2) = y := by simpa using hy
      subst hy2
      obtain ⟨g1, g2, g3⟩ := h3 j x hx
      refine ⟨g1, g2, fun q hq => ?_⟩
      rcases List.mem_cons.mp hq with rfl | hq2
      · exact ax_u_at _ _ _ _
      · have := List.all_eq_true.mp hk q hq2
        have hne : q.1 ≠ k := fun e => by simp [e] at this
        rw [ax_u_nj hne]
        exact g3 q hq2
    · simp only [if_neg hji] at hy
      have hy2 : T[i]? = some y := by simpa using hy
      obtain ⟨g1, g2, g3⟩ := h3 i y hy2
      refine ⟨g1, g2, fun q hq => ?_⟩
      rw [ax_u_ne (by omega)]
      exact g3 q hq
  · intro i hi
    obtain ⟨g1, g2, g3⟩ := h4 i hi
    refine ⟨g1, g2, ?_⟩
    show ax_u (ax_R G) (a + j) k _ i = _
    rw [ax_u_ne (by omega)]
    exact g3
/-- a number is set -/
theorem ax_Bt.int {j k : Nat} {v : Int32} (h : ax_Bt G0 I0 L0 a us T C G I L) (hj : j < T.length) : ax_Bt G0 I0 L0 a us T (C.modify j (fun f i => if i = k then v else f i)) G (ax_u I (a + j) k v) L := by
  obtain ⟨h1, h2, h3, h4, h5, h6, h7, h8⟩ := h
  refine ⟨h1, h2, h3, h4, ?_, by rw [List.length_modify]; exact h6, ?_, h8⟩
  · intro b hb; rw [ax_u_ne (by omega)]; exact h5 b hb
  · intro i f hf
    rw [List.getElem?_modify] at hf
    by_cases hji : j = i
    · subst hji
      simp only [if_true] at hf
      obtain ⟨g, hg, e⟩ := Option.map_eq_some_iff.mp hf
      subst e
      rw [ax_u_eq, h7 j g hg]
    · simp only [if_neg hji] at hf
      have hf2 : C[i]? = some f := by simpa using hf
      rw [ax_u_ne (by omega)]
      exact h7 i f hf2
/-- an object that was begun behind it is built -/
theorem ax_Bt.sub {G1 : ax_G} {I1 : ax_I} {L1 : ax_L} {p us2 : Nat} {T2 : ax_Tb} {C2 : List (Nat → Int32)} (h : ax_Bt G0 I0 L0 a us T C G I L) (hp : T.length = p + 1) (h2 : ax_Bt G I L (a + p) us2 T2 C2 G1 I1 L1) : ax_Bt G0 I0 L0 a us2 (T.take p ++ ax_shf p T2) (C.take p ++ C2) G1 I1 L1 := by
  obtain ⟨h1, -, h3, h4, h5, h6, h7, h8⟩ := h
  obtain ⟨g1, g2, g3, g4, g5, g6, g7, g8⟩ := h2
  have hl : (T.take p).length = p := by rw [List.length_take]; omega
  have hlc : (C.take p).length = p := by rw [List.length_take]; omega
  have hs : (ax_shf p T2).length = T2.length := List.length_map ..
  refine ⟨by rw [List.length_append, hl, hs]; omega, g2, ?_, ?_, ?_, ?_, ?_, ?_⟩
  · intro j x hx
    rcases Nat.lt_or_ge j p with q | q
    · rw [List.getElem?_append_left (by omega), List.getElem?_take_of_lt q] at hx
      obtain ⟨e1, e2, e3⟩ := g4 (a + j) (by omega)
      rw [e1, e2, e3]
      exact h3 j x hx
    · rw [List.getElem?_append_right (by omega), hl] at hx
      unfold ax_shf at hx
      rw [List.getElem?_map] at hx
      obtain ⟨y, hy, e⟩ := Option.map_eq_some_iff.mp hx
      subst e
      obtain ⟨e1, e2, e3⟩ := g3 (j - p) y hy
      rw [show a + p + (j - p) = a + j by omega] at e1 e2 e3
      refine ⟨e1, e2, fun z hz => ?_⟩
      obtain ⟨z0, hz0, rfl⟩ := List.mem_map.mp hz
      rw [e3 z0 hz0, Nat.add_assoc]
  · intro b hb
    obtain ⟨e1, e2, e3⟩ := g4 b (by omega)
    rw [e1, e2, e3]
    exact h4 b hb
  · intro b hb
    obtain ⟨e1, e2⟩ := g5 b (by omega)
    rw [e1, e2]
    exact h5 b hb
  · rw [List.length_append, List.length_append, hl, hs, hlc, g6]
  · intro j f hf
    rcases Nat.lt_or_ge j p with q | q
    · rw [List.getElem?_append_left (by omega), List.getElem?_take_of_lt q] at hf
      rw [(g5 (a + j) (by omega)).1]
      exact h7 j f hf
    · rw [List.getElem?_append_right (by omega), hlc] at hf
      have := g7 (j - p) f hf
      rwa [show a + p + (j - p) = a + j by omega] at this
  · intro j hj
    rw [List.length_append, hl, hs] at hj
    rcases Nat.lt_or_ge j p with q | q
    · rw [(g5 (a + j) (by omega)).2]
      exact h8 j (by omega)
    · have := g8 (j - p) (by omega)
      rwa [show a + p + (j - p) = a + j by omega] at this
/-- how it begins -/
theorem ax_Bt.start {ci : Nat} (ht : ax_top G = a + 1) (hK : ax_K G a = 8 + ci) (hN : ax_N G a = 0) (hI : I a = fun _ => 0) (hL : L a = fun _ => 0) : ax_Bt G I L a (ax_used G) [(8 + ci, 0, [])] [fun _ => 0] G I L := by
  refine ⟨ht, rfl, ?_, fun b _ => ⟨rfl, rfl, rfl⟩, fun b _ => ⟨rfl, rfl⟩, rfl, ?_, ?_⟩
  · intro j x hx
    match j, hx with
    | 0, hx => cases hx; exact ⟨hK, hN, fun q hq => by cases hq⟩
    | j + 1, hx => cases hx
  · intro j f hf
    match j, hf with
    | 0, hf => cases hf; exact hI
    | j + 1, hf => cases hf
  · intro j hj
    have : j = 0 := by have : j < 1 := hj; omega
    subst this
    exact hL
end AXBT

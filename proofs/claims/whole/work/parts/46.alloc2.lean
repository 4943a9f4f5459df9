/-! ===== objects that are built ===== -/
/-- object a of class ci, as far as it is built: its arrays t lie behind it, in them fs and no longs; before it all is as it was -/
def ax_Bd (G0 : ax_G) (I0 : ax_I) (L0 : ax_L) (a ci us : Nat) (t : List (Nat × Nat × Nat)) (fs : List (Nat → Int32)) (G : ax_G) (I : ax_I) (L : ax_L) : Prop :=
  ax_top G = a + 1 + t.length ∧ ax_used G = us ∧ ax_K G a = 8 + ci ∧ (∀ (j : Nat) (x : Nat × Nat × Nat), t[j]? = some x → ax_R G a x.1 = some (a + 1 + j) ∧ ax_K G (a + 1 + j) = x.2.1 ∧ ax_N G (a + 1 + j) = x.2.2) ∧
  (∀ b, b < a → ax_K G b = ax_K G0 b ∧ ax_N G b = ax_N G0 b ∧ ax_R G b = ax_R G0 b) ∧ (∀ b, b ≤ a → I b = I0 b ∧ L b = L0 b) ∧ (∀ j, j < t.length → L (a + 1 + j) = fun _ => 0) ∧ fs.length = t.length ∧ (∀ (j : Nat) (f : Nat → Int32), fs[j]? = some f → I (a + 1 + j) = f)
theorem ax_Bd.top {G0 : ax_G} {I0 : ax_I} {L0 : ax_L} {a ci us : Nat} {t : List (Nat × Nat × Nat)} {fs : List (Nat → Int32)} {G : ax_G} {I : ax_I} {L : ax_L} (h : ax_Bd G0 I0 L0 a ci us t fs G I L) : a < ax_top G := by have := h.1; omega
theorem ax_Bd.push {G0 : ax_G} {I0 : ax_I} {L0 : ax_L} {a ci us k kd n : Nat} {t : List (Nat × Nat × Nat)} {fs : List (Nat → Int32)} {G : ax_G} {I I' : ax_I} {L : ax_L} {f : Nat → Int32} (h : ax_Bd G0 I0 L0 a ci us t fs G I L) (hk : ∀ x ∈ t, x.1 ≠ k) (hI : ∀ b, b ≠ ax_top G → I' b = I b) (hf : I' (ax_top G) = f) : ax_Bd G0 I0 L0 a ci (us + n) (t ++ [(k, kd, n)]) (fs ++ [f]) (ax_gR (ax_new G kd n n) a k (some (ax_top G))) I' (ax_z L (ax_top G) 0) := by
  obtain ⟨h1, h2, h3, h4, h5, h6, h7, h8, h9⟩ := h
  have hat : a ≠ ax_top G := by omega
  refine ⟨?_, ?_, ?_, ?_, ?_, ?_, ?_, ?_, ?_⟩
  · show ax_top G + 1 = _
    rw [List.length_append, h1]
    rfl
  · show ax_used G + n = _
    rw [h2]
  · show ax_K (ax_new G kd n n) a = _
    rw [ax_new_Kne hat]
    exact h3
  · intro j x hx
    rcases Nat.lt_trichotomy j t.length with q | q | q
    · rw [List.getElem?_append_left q] at hx
      obtain ⟨g1, g2, g3⟩ := h4 j x hx
      have hne : a + 1 + j ≠ ax_top G := by omega
      refine ⟨?_, ?_, ?_⟩
      · show ax_u (ax_R (ax_new G kd n n)) a k _ a x.1 = _
        rw [ax_u_nj (hk x (List.mem_of_getElem? hx)), ax_new_Rne hat]
        exact g1
      · show ax_K (ax_new G kd n n) (a + 1 + j) = _
        rw [ax_new_Kne hne]; exact g2
      · show ax_N (ax_new G kd n n) (a + 1 + j) = _
        rw [ax_new_Nne hne]; exact g3
    · subst q
      rw [List.getElem?_append_right (Nat.le_refl _), Nat.sub_self] at hx
      cases hx
      rw [← h1]
      refine ⟨?_, ax_new_K G kd n n, ax_new_N G kd n n⟩
      show ax_u (ax_R (ax_new G kd n n)) a k _ a k = _
      exact ax_u_at _ _ _ _
    · rw [List.getElem?_eq_none (by rw [List.length_append]; simp; omega)] at hx
      cases hx
  · intro b hb
    obtain ⟨g1, g2, g3⟩ := h5 b hb
    have hne : b ≠ ax_top G := by omega
    refine ⟨?_, ?_, ?_⟩
    · show ax_K (ax_new G kd n n) b = _
      rw [ax_new_Kne hne]; exact g1
    · show ax_N (ax_new G kd n n) b = _
      rw [ax_new_Nne hne]; exact g2
    · show ax_u (ax_R (ax_new G kd n n)) a k _ b = _
      rw [ax_u_ne (by omega), ax_new_Rne hne]; exact g3
  · intro b hb
    have hne : b ≠ ax_top G := by omega
    rw [hI b hne, ax_z_ne hne]
    exact h6 b hb
  · intro j hj
    rw [List.length_append] at hj
    have hj : j < t.length + 1 := hj
    rcases Nat.eq_or_lt_of_le (Nat.le_of_lt_succ hj) with q | q
    · subst q; rw [← h1, ax_z_eq]
    · rw [ax_z_ne (by omega)]; exact h7 j q
  · rw [List.length_append, List.length_append, h8]; rfl
  · intro j g hg
    rcases Nat.lt_trichotomy j fs.length with q | q | q
    · rw [List.getElem?_append_left q] at hg
      rw [hI _ (by omega)]
      exact h9 j g hg
    · subst q
      rw [List.getElem?_append_right (Nat.le_refl _), Nat.sub_self] at hg
      cases hg
      rw [h8, ← h1]
      exact hf
    · rw [List.getElem?_eq_none (by rw [List.length_append]; simp; omega)] at hg
      cases hg
theorem ax_arI : Cond.arrayClass .int ∈ lw_use := ax_inT 1 93 (by decide +kernel)
theorem ax_arL : Cond.arrayClass .long ∈ lw_use := ax_inT 1 147 (by decide +kernel)
theorem ax_arB : Cond.arrayClass .byte ∈ lw_use := ax_inT 5 225 (by decide +kernel)
section AXB
variable {p : Program} {l : Launch} {e : Env} {R : Room} {s : State} {m : MethodId} {args : Array Value} {below : List Frame} {meth : Method} {c : Code}
variable {cc : ByteArray} {nL : Nat} {own nm : String} {ret : Option FieldType} {D : va_G} {T : Nat → ClassId} {o c0 u0 : Nat} {Q : State → Prop}
variable {G G0 : ax_G} {I I0 : ax_I} {L L0 : ax_L} {pc : Nat} {lv : List (Nat × Value)} {st : List Value} {a ci us : Nat} {t : List (Nat × Nat × Nat)} {fs : List (Nat → Int32)}
theorem x_nai (C : ax_C p s m args meth c cc nL own nm ret D T o c0) {n : Nat} (hn : n < 2 ^ 20) (hcells : ax_top G + 1 ≤ c0 + R.cells) (hslots : ax_used G + n ≤ u0 + R.slots) (hdg : decode cc pc = .ok (.newarray .int, 2)) (kk : ax_X p l e R s m args below meth c nL D T o c0 u0 Q (ax_new G 0 n n) (ax_z I (ax_top G) 0) (ax_z L (ax_top G) 0) (pc + 2) lv (.ref (ax_top G) :: st)) : ax_X p l e R s m args below meth c nL D T o c0 u0 Q G I L pc lv (.int (nI n) :: st) := by
  refine x_newa (t := 0) (ty := .int) (N' := n) C rfl (by decide) rfl (fun h => h) ax_arI ?_ (nI_pos (by omega)) (pk_cl (x := nI n) n rfl (by omega)) ?_ hcells hslots hdg kk
  · intro cA a0 he
    rw [ax_ent_i (by rw [ax_new_K]; decide)] at he
    have h2 := Sum.inl.inj he
    have h3 := (Prod.mk.inj h2).2
    subst h3
    rw [ax_new_N, ax_z_eq]
    rfl
  · show n * componentBytes .int ≤ 536870912
    have : componentBytes .int ≤ 8 := by decide
    have h4 : n * componentBytes .int ≤ n * 8 := Nat.mul_le_mul_left n this
    omega
theorem x_fldi (C : ax_C p s m args meth c cc nL own nm ret D T o c0) {n index k : Nat} {tyf : Nat → FieldType} (hB : ax_Bd G0 I0 L0 a ci us t fs G I L) (hf : ax_fl own index ci k) (hw : ax_fw ci tyf) (ht : ax_ty ci k = true) (hfin : ax_fin ci k = true) (hnm : nm = "<init>") (hdecl : ax_decl ci k = own) (hnr : ∀ x, narrow (tyf k) (.ref x) = .ref x) (hfit : ∀ x, fits (tyf k) (.ref x) = true) (hk : (t.all fun x => !(x.1 == k)) = true) (hn : n < 2 ^ 20) (hcells : a + 1 + t.length + 1 ≤ c0 + R.cells) (hslots : us + n ≤ u0 + R.slots) (hd1 : decode cc pc = .ok (.newarray .int, 2)) (hd2 : decode cc (pc + 2) = .ok (.putfield index, 3)) (kk : ∀ (G' : ax_G) (I' : ax_I) (L' : ax_L), ax_Bd G0 I0 L0 a ci (us + n) (t ++ [(k, 0, n)]) (fs ++ [fun _ => 0]) G' I' L' → ax_X p l e R s m args below meth c nL D T o c0 u0 Q G' I' L' (pc + 2 + 3) lv st) : ax_X p l e R s m args below meth c nL D T o c0 u0 Q G I L pc lv (.int (nI n) :: .ref a :: st) := by
  refine x_nai C hn (by rw [hB.1]; exact hcells) (by rw [hB.2.1]; exact hslots) hd1 ?_
  refine x_putrF C hf hw ht hfin hnm hdecl (by rw [ax_new_top]; have := hB.top; omega) (by rw [ax_new_Kne (by have := hB.top; omega)]; exact hB.2.2.1) hnr hfit hd2 ?_
  exact kk _ _ _ (hB.push (fun x hx q => by have := List.all_eq_true.mp hk x hx; simp [q] at this) (fun b hb => ax_z_ne hb) (ax_z_eq _ _ _))
theorem x_nab (C : ax_C p s m args meth c cc nL own nm ret D T o c0) {n : Nat} (hn : n < 2 ^ 20) (hcells : ax_top G + 1 ≤ c0 + R.cells) (hslots : ax_used G + n ≤ u0 + R.slots) (hdg : decode cc pc = .ok (.newarray .byte, 2)) (kk : ax_X p l e R s m args below meth c nL D T o c0 u0 Q (ax_new G 1 n n) (ax_z I (ax_top G) 0) (ax_z L (ax_top G) 0) (pc + 2) lv (.ref (ax_top G) :: st)) : ax_X p l e R s m args below meth c nL D T o c0 u0 Q G I L pc lv (.int (nI n) :: st) := by
  refine x_newa (t := 1) (ty := .byte) (N' := n) C rfl (by decide) rfl (fun h => h) ax_arB ?_ (nI_pos (by omega)) (pk_cl (x := nI n) n rfl (by omega)) ?_ hcells hslots hdg kk
  · intro cA a0 he
    rw [ax_ent_i (by rw [ax_new_K]; decide)] at he
    have h2 := Sum.inl.inj he
    have h3 := (Prod.mk.inj h2).2
    subst h3
    rw [ax_new_N, ax_z_eq]
    rfl
  · show n * componentBytes .byte ≤ 536870912
    have : componentBytes .byte ≤ 8 := by decide
    have h4 : n * componentBytes .byte ≤ n * 8 := Nat.mul_le_mul_left n this
    omega
theorem x_fldb (C : ax_C p s m args meth c cc nL own nm ret D T o c0) {n index k : Nat} {tyf : Nat → FieldType} (hB : ax_Bd G0 I0 L0 a ci us t fs G I L) (hf : ax_fl own index ci k) (hw : ax_fw ci tyf) (ht : ax_ty ci k = true) (hfin : ax_fin ci k = true) (hnm : nm = "<init>") (hdecl : ax_decl ci k = own) (hnr : ∀ x, narrow (tyf k) (.ref x) = .ref x) (hfit : ∀ x, fits (tyf k) (.ref x) = true) (hk : (t.all fun x => !(x.1 == k)) = true) (hn : n < 2 ^ 20) (hcells : a + 1 + t.length + 1 ≤ c0 + R.cells) (hslots : us + n ≤ u0 + R.slots) (hd1 : decode cc pc = .ok (.newarray .byte, 2)) (hd2 : decode cc (pc + 2) = .ok (.putfield index, 3)) (kk : ∀ (G' : ax_G) (I' : ax_I) (L' : ax_L), ax_Bd G0 I0 L0 a ci (us + n) (t ++ [(k, 1, n)]) (fs ++ [fun _ => 0]) G' I' L' → ax_X p l e R s m args below meth c nL D T o c0 u0 Q G' I' L' (pc + 2 + 3) lv st) : ax_X p l e R s m args below meth c nL D T o c0 u0 Q G I L pc lv (.int (nI n) :: .ref a :: st) := by
  refine x_nab C hn (by rw [hB.1]; exact hcells) (by rw [hB.2.1]; exact hslots) hd1 ?_
  refine x_putrF C hf hw ht hfin hnm hdecl (by rw [ax_new_top]; have := hB.top; omega) (by rw [ax_new_Kne (by have := hB.top; omega)]; exact hB.2.2.1) hnr hfit hd2 ?_
  exact kk _ _ _ (hB.push (fun x hx q => by have := List.all_eq_true.mp hk x hx; simp [q] at this) (fun b hb => ax_z_ne hb) (ax_z_eq _ _ _))
theorem x_nal (C : ax_C p s m args meth c cc nL own nm ret D T o c0) {n : Nat} (hn : n < 2 ^ 20) (hcells : ax_top G + 1 ≤ c0 + R.cells) (hslots : ax_used G + n ≤ u0 + R.slots) (hdg : decode cc pc = .ok (.newarray .long, 2)) (kk : ax_X p l e R s m args below meth c nL D T o c0 u0 Q (ax_new G 2 n n) (ax_z I (ax_top G) 0) (ax_z L (ax_top G) 0) (pc + 2) lv (.ref (ax_top G) :: st)) : ax_X p l e R s m args below meth c nL D T o c0 u0 Q G I L pc lv (.int (nI n) :: st) := by
  refine x_newa (t := 2) (ty := .long) (N' := n) C rfl (by decide) rfl (fun h => h) ax_arL ?_ (nI_pos (by omega)) (pk_cl (x := nI n) n rfl (by omega)) ?_ hcells hslots hdg kk
  · intro cA a0 he
    rw [ax_ent_l (ax_new_K _ _ _ _)] at he
    have h2 := Sum.inl.inj he
    have h3 := (Prod.mk.inj h2).2
    subst h3
    rw [ax_new_N, ax_z_eq]
    rfl
  · show n * componentBytes .long ≤ 536870912
    have : componentBytes .long ≤ 8 := by decide
    have h4 : n * componentBytes .long ≤ n * 8 := Nat.mul_le_mul_left n this
    omega
theorem x_fldl (C : ax_C p s m args meth c cc nL own nm ret D T o c0) {n index k : Nat} {tyf : Nat → FieldType} (hB : ax_Bd G0 I0 L0 a ci us t fs G I L) (hf : ax_fl own index ci k) (hw : ax_fw ci tyf) (ht : ax_ty ci k = true) (hfin : ax_fin ci k = true) (hnm : nm = "<init>") (hdecl : ax_decl ci k = own) (hnr : ∀ x, narrow (tyf k) (.ref x) = .ref x) (hfit : ∀ x, fits (tyf k) (.ref x) = true) (hk : (t.all fun x => !(x.1 == k)) = true) (hn : n < 2 ^ 20) (hcells : a + 1 + t.length + 1 ≤ c0 + R.cells) (hslots : us + n ≤ u0 + R.slots) (hd1 : decode cc pc = .ok (.newarray .long, 2)) (hd2 : decode cc (pc + 2) = .ok (.putfield index, 3)) (kk : ∀ (G' : ax_G) (I' : ax_I) (L' : ax_L), ax_Bd G0 I0 L0 a ci (us + n) (t ++ [(k, 2, n)]) (fs ++ [fun _ => 0]) G' I' L' → ax_X p l e R s m args below meth c nL D T o c0 u0 Q G' I' L' (pc + 2 + 3) lv st) : ax_X p l e R s m args below meth c nL D T o c0 u0 Q G I L pc lv (.int (nI n) :: .ref a :: st) := by
  refine x_nal C hn (by rw [hB.1]; exact hcells) (by rw [hB.2.1]; exact hslots) hd1 ?_
  refine x_putrF C hf hw ht hfin hnm hdecl (by rw [ax_new_top]; have := hB.top; omega) (by rw [ax_new_Kne (by have := hB.top; omega)]; exact hB.2.2.1) hnr hfit hd2 ?_
  exact kk _ _ _ (hB.push (fun x hx q => by have := List.all_eq_true.mp hk x hx; simp [q] at this) (fun b hb => ax_z_ne hb) (ax_z_eq _ _ _))
end AXB

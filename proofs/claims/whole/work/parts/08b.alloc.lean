/-! ===== new cells ===== -/
/-- one more cell: of kind k, n long, of sl slots; nothing in it -/
def ax_new (G : ax_G) (k n sl : Nat) : ax_G := ((ax_top G + 1, ax_used G + sl), (fun b => if b = ax_top G then k else ax_K G b), (fun b => if b = ax_top G then n else ax_N G b), fun b => if b = ax_top G then (fun _ => none) else ax_R G b)
def ax_z {α : Type} (f : Nat → Nat → α) (a : Nat) (z : α) : Nat → Nat → α := fun b => if b = a then (fun _ => z) else f b
theorem ax_z_ne {α : Type} {f : Nat → Nat → α} {a b : Nat} {z : α} (h : b ≠ a) : ax_z f a z b = f b := by unfold ax_z; rw [if_neg h]
theorem ax_z_eq {α : Type} (f : Nat → Nat → α) (a : Nat) (z : α) : ax_z f a z a = fun _ => z := by unfold ax_z; rw [if_pos rfl]
theorem ax_new_top (G : ax_G) (k n sl : Nat) : ax_top (ax_new G k n sl) = ax_top G + 1 := rfl
theorem ax_new_used (G : ax_G) (k n sl : Nat) : ax_used (ax_new G k n sl) = ax_used G + sl := rfl
theorem ax_new_K (G : ax_G) (k n sl : Nat) : ax_K (ax_new G k n sl) (ax_top G) = k := if_pos rfl
theorem ax_new_N (G : ax_G) (k n sl : Nat) : ax_N (ax_new G k n sl) (ax_top G) = n := if_pos rfl
theorem ax_new_R (G : ax_G) (k n sl : Nat) : ax_R (ax_new G k n sl) (ax_top G) = fun _ => none := if_pos rfl
theorem ax_new_Kne {G : ax_G} {k n sl b : Nat} (h : b ≠ ax_top G) : ax_K (ax_new G k n sl) b = ax_K G b := if_neg h
theorem ax_new_Nne {G : ax_G} {k n sl b : Nat} (h : b ≠ ax_top G) : ax_N (ax_new G k n sl) b = ax_N G b := if_neg h
theorem ax_new_Rne {G : ax_G} {k n sl b : Nat} (h : b ≠ ax_top G) : ax_R (ax_new G k n sl) b = ax_R G b := if_neg h
theorem ax_new_push {T : Nat → ClassId} {o : Nat} {G : ax_G} {I : ax_I} {L : ax_L} {k n sl : Nat} {e : va_E} (he : ax_ent T o (ax_new G k n sl) (ax_z I (ax_top G) 0) (ax_z L (ax_top G) 0) (ax_top G) = e) : ax_ws T o G I L ++ [(o + ax_top G, e)] = ax_ws T o (ax_new G k n sl) (ax_z I (ax_top G) 0) (ax_z L (ax_top G) 0) :=
  ax_ws_push rfl he fun b hb => ax_ent_eq (ax_new_Kne (by omega)) (ax_new_Nne (by omega)) (ax_new_Rne (by omega)) (ax_z_ne (by omega)) (ax_z_ne (by omega))
section AXN
variable {p : Program} {l : Launch} {e : Env} {R : Room} {s : State} {m : MethodId} {args : Array Value} {below : List Frame} {meth : Method} {c : Code}
variable {cc : ByteArray} {nL : Nat} {own nm : String} {ret : Option FieldType} {D : va_G} {T : Nat → ClassId} {o c0 u0 : Nat} {Q : State → Prop}
variable {G : ax_G} {I : ax_I} {L : ax_L} {pc : Nat} {lv : List (Nat × Value)} {st : List Value}
/-- where a new cell lies -/
theorem ax_fresh (C : ax_C p s m args meth c cc nL own nm ret D T o c0) (a1 : c0 ≤ ax_top G) {H1 : Heap} {q sl : Nat} {e1 : va_E} {locs : List Loc} (hP : va_P D vwCl (ax_ws T o G I L ++ [(q, e1)]) H1) (hD : va_D (fun q => o ≤ q) (ax_ws T o G I L ++ [(q, e1)])) {S : State} (hS : S.heap = H1) (X : Stand p l e R s m args below meth c S locs (ax_top G - c0 + 1) sl) : q = o + ax_top G := by
  have hlen := ax_ws_len T o G I L
  have hq : (ax_ws T o G I L ++ [(q, e1)])[ax_top G]? = some (q, e1) := by
    rw [List.getElem?_append_right (by rw [hlen]; exact Nat.le_refl _), hlen, Nat.sub_self]; rfl
  have h1 : q < H1.size := (hP _ _ hq).lt
  have h2 : S.heap.size ≤ s.heap.size + (ax_top G - c0 + 1) := X.heapSize
  rw [hS] at h2
  have h3 : s.heap.size = o + c0 := C.2.2.2.2.2.2.2.2.2.1
  have h4 : o ≤ q := hD.2 _ _ hq
  rcases Nat.lt_or_ge q (o + ax_top G) with h | h
  · exfalso
    have h5 : (ax_ws T o G I L ++ [(q, e1)])[q - o]? = some (o + (q - o), ax_ent T o G I L (q - o)) := by
      rw [List.getElem?_append_left (by rw [hlen]; omega)]
      exact ax_ws_at (by omega)
    have h6 := hD.1 _ _ _ _ h5 hq (by show o + (q - o) = q; omega)
    omega
  · omega
theorem x_newa (C : ax_C p s m args meth c cc nL own nm ret D T o c0) {atype : ArrayType} {t : Nat} {ty : FieldType} {n : Int32} {N' : Nat} (ht : (ax_tys T)[t]? = some (T t, ty)) (htl : t < 3) (hty : newarray.typeOf atype = ty) (hprim : va_RA s (T t) ty → s.vm.findClass ("[" ++ ty.toString) = some (T t)) (harr : Cond.arrayClass ty ∈ lw_use) (hdef : ∀ cA : ClassId, ∀ a0 : vp_A, ax_ent T o (ax_new G t N' N') (ax_z I (ax_top G) 0) (ax_z L (ax_top G) 0) (ax_top G) = .inl (T t, a0) → vp_cell cA a0 = arrV cA N' (fun _ => defaultValue ty)) (hn : ¬ n < 0) (hN : n.toNatClampNeg = N') (hbytes : N' * componentBytes ty ≤ 536870912)
    (hcells : ax_top G + 1 ≤ c0 + R.cells) (hslots : ax_used G + N' ≤ u0 + R.slots) (hdg : decode cc pc = .ok (.newarray atype, 2))
    (kk : ax_X p l e R s m args below meth c nL D T o c0 u0 Q (ax_new G t N' N') (ax_z I (ax_top G) 0) (ax_z L (ax_top G) 0) (pc + 2) lv (.ref (ax_top G) :: st)) : ax_X p l e R s m args below meth c nL D T o c0 u0 Q G I L pc lv (.int n :: st) := by
  intro H locs ls a1 a2 a3 a4 a5
  have hKK := C.2.2.2.2.2.1
  have hex : ∃ a0 : vp_A, ax_ent T o (ax_new G t N' N') (ax_z I (ax_top G) 0) (ax_z L (ax_top G) 0) (ax_top G) = .inl (T t, a0) := by
    have hk : ax_K (ax_new G t N' N') (ax_top G) = t := ax_new_K G t N' N'
    rcases Nat.lt_or_ge t 2 with h | h
    · exact ⟨_, by rw [ax_ent_i (by rw [hk]; exact h), hk]⟩
    · have h2 : t = 2 := by omega
      subst h2
      exact ⟨_, by rw [ax_ent_l hk]⟩
  obtain ⟨a0, he⟩ := hex
  refine va_newa (atype := atype) (ty := ty) (N' := N') (a0 := a0) C.1 C.2.1 (by rw [hty]; exact C.2.2.2.2.1 _ harr) hty hKK a4 (ax_wsD T o G I L) a5 (fun q hq => by have := C.2.2.2.2.2.2.2.2.2.1; show o ≤ q; omega) (fun cA => hdef cA a0 he) hn hN hbytes (by omega) (by omega) hdg (fun q cA H1 hK' hP' hD' hS' => ?_)
  intro S hS X
  have hq := ax_fresh C a1 hP' hD' hS X
  subst hq
  have hcA : cA = T t := by
    have h1 := (hK'.2 (ax_tys T).length (cA, ty) (by rw [List.getElem?_append_right (Nat.le_refl _), Nat.sub_self]; rfl)).2
    have h2 := hprim (hKK.2 t _ ht).2
    have h3 : s.vm.findClass ("[" ++ ty.toString) = some cA := by
      have h4 : t = 0 ∨ t = 1 ∨ t = 2 := by omega
      rcases h4 with rfl | rfl | rfl <;> (cases ht; exact h1)
    exact Option.some.inj (h3.symm.trans h2)
  subst hcA
  have k := kk H1 locs ls (by rw [ax_new_top]; omega) (by rw [ax_new_used]; omega) a3 (ax_P_of hP' (ax_new_push he)) hS'
  rw [ax_new_top, ax_new_used, show ax_top G + 1 - c0 = ax_top G - c0 + 1 by omega, show ax_used G + N' - u0 = ax_used G - u0 + N' by omega] at k
  exact k S hS X
theorem x_new (C : ax_C p s m args meth c cc nL own nm ret D T o c0) {index ci : Nat} {q0 : vw_C} {tyf : Nat → FieldType} (hq : vwCl[ci]? = some q0) (hin : ∀ w ∈ u_ws q0.1 q0.2.1 q0.2.2, w ∈ lw_use) (hw : ∀ k, k < q0.2.2 → parseFieldDescriptor (q0.2.1 k).2.2.1 = some (tyf k)) (hdv : ∀ k, k < q0.2.2 → defaultValue (tyf k) = bif ax_ty ci k then .null else .int 0) (hcl : Cond.classLink own index q0.1 ∈ lw_use) (hinst : Cond.instantiable q0.1 q0.2.2 ∈ lw_use) (hini : Cond.initialized q0.1 ∈ lw_use)
    (hcells : ax_top G + 1 ≤ c0 + R.cells) (hslots : ax_used G + q0.2.2 ≤ u0 + R.slots) (hdg : decode cc pc = .ok (.new index, 3))
    (kk : ax_X p l e R s m args below meth c nL D T o c0 u0 Q (ax_new G (8 + ci) 0 q0.2.2) (ax_z I (ax_top G) 0) (ax_z L (ax_top G) 0) (pc + 3) lv (.ref (ax_top G) :: st)) : ax_X p l e R s m args below meth c nL D T o c0 u0 Q G I L pc lv st := by
  intro H locs ls a1 a2 a3 a4 a5
  have hts := C.2.2.2.2.1
  have he : ax_ent T o (ax_new G (8 + ci) 0 q0.2.2) (ax_z I (ax_top G) 0) (ax_z L (ax_top G) 0) (ax_top G) = .inr (ci, ax_fs o (ax_new G (8 + ci) 0 q0.2.2) (ax_z I (ax_top G) 0) ci (ax_top G)) := ax_ent_o (ax_new_K _ _ _ _)
  obtain ⟨cn, tt, nn⟩ := q0
  refine va_new (ci := ci) (C := cn) (T := tt) (N := nn) (fs := ax_fs o (ax_new G (8 + ci) 0 nn) (ax_z I (ax_top G) 0) ci (ax_top G)) C.1 C.2.1 hts hin tyf hw C.2.2.2.1 (hts _ hcl) (hts _ hinst) (hts _ hini) C.2.2.2.2.2.1 a4 (ax_wsD T o G I L) a5 (fun q hq => by have := C.2.2.2.2.2.2.2.2.2.1; show o ≤ q; omega) hq (fun j hj => ?_) (by omega) (by simp only at hslots; omega) hdg (fun q H1 hP' hD' hS' => ?_)
  · rw [hdv j hj]
    unfold vp_V
    rw [List.getD_eq_getElem?_getD, ax_fs_at (by rw [ax_nf_of hq]; exact hj)]
    unfold ax_fv
    cases hb : ax_ty ci j with
    | true => show _ = ax_tr o (ax_rv (ax_R (ax_new G (8 + ci) 0 nn) (ax_top G) j)); rw [ax_new_R]; rfl
    | false => show _ = ax_tr o (.int (ax_z I (ax_top G) 0 (ax_top G) j)); rw [ax_z_eq]; rfl
  · intro S hS X
    have hq2 := ax_fresh C a1 hP' hD' hS X
    subst hq2
    have k := kk H1 locs ls (by rw [ax_new_top]; omega) (by rw [ax_new_used]; omega) a3 (ax_P_of hP' (ax_new_push he)) hS'
    rw [ax_new_top, ax_new_used, show ax_top G + 1 - c0 = ax_top G - c0 + 1 by omega, show ax_used G + nn - u0 = ax_used G - u0 + nn by omega] at k
    exact k S hS X
theorem x_obj (C : ax_C p s m args meth c cc nL own nm ret D T o c0) {index a : Nat} (h1 : Cond.methodLink own index Lib.objectInit ∈ lw_use) (h2 : Cond.instanceMethod Lib.objectInit ∈ lw_use) (h3 : Cond.code Lib.objectInit ⟨#[0xb1]⟩ 1 none ∈ lw_use) (hR : 1 ≤ R.frames ∧ 40 ≤ R.locals) (hrest : (st.map fun v => v.category).sum ≤ 8) (hdg : decode cc pc = .ok (.invokespecial index, 3))
    (kk : ax_X p l e R s m args below meth c nL D T o c0 u0 Q G I L (pc + 3) lv st) : ax_X p l e R s m args below meth c nL D T o c0 u0 Q G I L pc lv (.ref a :: st) := by
  intro H locs ls a1 a2 a3 a4 a5
  have hts := C.2.2.2.2.1
  refine W.objInit (a := o + a) (rest := st.map (ax_tr o)) C.1 C.2.1 C.2.2.2.1 (hts _ h1) (hts _ h2) (hts _ h3) rfl (a3.1.trans C.2.2.1.symm) rfl hdg hR.1 ?_ (kk H locs ls a1 a2 a3 a4 a5)
  show 2 * 0 + ((st.map (ax_tr o)).map fun v => v.category).sum + 12 ≤ R.locals
  rw [ax_cats]
  omega
end AXN

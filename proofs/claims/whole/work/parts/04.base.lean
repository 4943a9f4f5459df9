/-! ===== the tables' words that stay as they are: all but those that only say that a method is private ===== -/
def ax_nk : Cond → Bool
  | .fieldLinkNest .. => true
  | .methodLinkNest .. => true
  | .arrayOver (.object _) => true
  | .arrayOver (.array _) => true
  | _ => false
def ax_use (w : Cond) : Bool := goodWord w || ax_nk w
def lw_use : List Cond := lw_tbl.filter ax_use
theorem ax_in {w : Cond} {i : Nat} (h : lw_tbl[i]? = some w) (hu : ax_use w = true) : w ∈ lw_use := List.mem_filter.mpr ⟨List.mem_of_getElem? h, hu⟩
theorem ax_any {w : Cond} (hu : ax_use w = true) {A A' : Array Value} {U : State} (h : w.before A U = true) : w.before A' U = true := by
  cases ho : w.onTables with
  | true => exact va_tabs ho rfl h
  | false =>
    unfold ax_use at hu
    cases w <;> first | exact h | (simp [goodWord, ax_nk, ho] at hu; done)
def ax_NS (U : State) : Prop := ∀ w ∈ lw_use, w.before #[] U = true
theorem ax_NS.warm {s U : State} (h : ax_NS s) (hW : s.WarmedH U.vm) : ax_NS U := by
  intro w hw
  have hu : ax_use w = true := (List.mem_filter.mp hw).2
  have h0 := h w hw
  cases hg : goodWord w with
  | true => exact word_at hW (good_of_word hg) h0
  | false =>
    unfold ax_use at hu
    rw [hg, Bool.false_or] at hu
    cases w <;> first | (cases hu; done) | exact va_Nw.warmF hW h0 | exact va_Nw.warmM hW h0 | skip
    rename_i ty
    cases ty <;> first | (cases hu; done) | exact va_AO.moved hW.alike h0 | exact Jvm.Stand.arrayOver_alikeB hW.alike h0
theorem ax_NS.vm {s U : State} (h : ax_NS s) (hv : s.vm = U.vm) : ax_NS U := by
  intro w hw
  have hu : ax_use w = true := (List.mem_filter.mp hw).2
  have h0 := h w hw
  cases ho : w.onTables with
  | true => exact va_tabs ho hv h0
  | false =>
    unfold ax_use at hu
    cases w <;> first | (cases ho; done) | (simp [goodWord, ax_nk, ho] at hu; done) | skip
    all_goals (simp only [Cond.before, Cond.holds, Cond.value] at h0 ⊢; rw [← hv]; exact h0)
theorem ax_NS.args {s : State} (h : ax_NS s) (A : Array Value) : ∀ w ∈ lw_use, w.before A s = true := fun w hw => ax_any (List.mem_filter.mp hw).2 (h w hw)
/-! ===== the memory of the two objects that the law makes, by offsets from the first cell that it makes =====
 kinds: 0 int[], 1 byte[], 2 long[], 3 State[], 4 Table[], 5 Sheet[], 6 Shelf[], 7 long[][], 8 + c an object of class c of vwCl -/
/-- how many cells, how many slots in all; kinds; lengths; references -/
abbrev ax_G : Type := (Nat × Nat) × (Nat → Nat) × (Nat → Nat) × (Nat → Nat → Option Nat)
abbrev ax_I : Type := Nat → Nat → Int32
abbrev ax_L : Type := Nat → Nat → Int64
abbrev ax_top (G : ax_G) : Nat := G.1.1
abbrev ax_used (G : ax_G) : Nat := G.1.2
abbrev ax_K (G : ax_G) : Nat → Nat := G.2.1
abbrev ax_N (G : ax_G) : Nat → Nat := G.2.2.1
abbrev ax_R (G : ax_G) : Nat → Nat → Option Nat := G.2.2.2
/-- which fields of which class are references -/
def ax_rl : List (List Bool) := [[true, true, true, true, true, true, true], [true, false, false], [true, true, false], [true, true, true, true, true, true, true, true], [true, false], [false, false, true], [false, true, false, false], [true, true, true, true, true, true, false, true, true, true, true, true, true, true], [false, false, true, true], [true, false, false, false, false, false, false, true, true, true], [true, true, false, true, true, true, true, true, true, true, true, true, true, true, true, true, true], [true, true, true, false, false, true, false, true, true, true, true, true, true, true, true, true, false, false, false, true, false, true, true, true, true, true, true, true, true, false, false, false, false, false, true, true, true, true, true, false, true, true, true, true, true, true]]
def ax_ty (c k : Nat) : Bool := ((ax_rl[c]?).getD [])[k]?.getD false
def ax_nf (c : Nat) : Nat := ((vwCl[c]?).map (fun q => q.2.2)).getD 0
def ax_tr (o : Nat) : Value → Value
  | .ref a => .ref (o + a)
  | v => v
def ax_rv : Option Nat → Value
  | some b => .ref b
  | none => .null
theorem ax_tr_rv (o : Nat) (r : Option Nat) : ax_tr o (ax_rv r) = va_rf (r.map (fun b => o + b)) := by cases r <;> rfl
theorem ax_tr_cat (o : Nat) (v : Value) : (ax_tr o v).category = v.category := by cases v <;> rfl
def ax_fv (G : ax_G) (I : ax_I) (c a k : Nat) : Value := bif ax_ty c k then ax_rv (ax_R G a k) else .int (I a k)
def ax_fs (o : Nat) (G : ax_G) (I : ax_I) (c a : Nat) : List Value := (List.range (ax_nf c)).map (fun k => ax_tr o (ax_fv G I c a k))
def ax_ent (T : Nat → ClassId) (o : Nat) (G : ax_G) (I : ax_I) (L : ax_L) (a : Nat) : va_E :=
  if ax_K G a < 2 then .inl (T (ax_K G a), ax_N G a, .inl (I a))
  else if ax_K G a = 2 then .inl (T 2, ax_N G a, .inr (.inl (L a)))
  else if ax_K G a < 8 then .inl (T (ax_K G a), ax_N G a, .inr (.inr (.inr (.inr (fun j => (ax_R G a j).map (fun b => o + b))))))
  else .inr (ax_K G a - 8, ax_fs o G I (ax_K G a - 8) a)
def ax_ws (T : Nat → ClassId) (o : Nat) (G : ax_G) (I : ax_I) (L : ax_L) : va_W := (List.range (ax_top G)).map (fun k => (o + k, ax_ent T o G I L k))
def ax_P (D : va_G) (T : Nat → ClassId) (o : Nat) (G : ax_G) (I : ax_I) (L : ax_L) (H : Heap) : Prop := va_P D vwCl (ax_ws T o G I L) H
/-- the array classes, in the order of the kinds -/
def ax_tys (T : Nat → ClassId) : List (ClassId × FieldType) := [(T 0, .int), (T 1, .byte), (T 2, .long), (T 3, .object RX7), (T 4, .object RX8), (T 5, .object RX5), (T 6, .object RX6), (T 7, .array .long)]
theorem ax_ws_at {T : Nat → ClassId} {o : Nat} {G : ax_G} {I : ax_I} {L : ax_L} {a : Nat} (h : a < ax_top G) : (ax_ws T o G I L)[a]? = some (o + a, ax_ent T o G I L a) := by
  unfold ax_ws
  rw [List.getElem?_map, List.getElem?_range h]
  rfl
theorem ax_ws_len (T : Nat → ClassId) (o : Nat) (G : ax_G) (I : ax_I) (L : ax_L) : (ax_ws T o G I L).length = ax_top G := by simp [ax_ws]
theorem ax_ws_of {T : Nat → ClassId} {o : Nat} {G : ax_G} {I : ax_I} {L : ax_L} {a : Nat} {q : Nat × va_E} (h : (ax_ws T o G I L)[a]? = some q) : a < ax_top G ∧ q = (o + a, ax_ent T o G I L a) := by
  have hl : a < ax_top G := by rw [← ax_ws_len T o G I L]; exact (List.getElem?_eq_some_iff.mp h).1
  rw [ax_ws_at hl] at h
  exact ⟨hl, (Option.some.inj h).symm⟩
theorem ax_wsD (T : Nat → ClassId) (o : Nat) (G : ax_G) (I : ax_I) (L : ax_L) : va_D (fun q => o ≤ q) (ax_ws T o G I L) := by
  refine ⟨fun i j p q hi hj he => ?_, fun k q hk => ?_⟩
  · obtain ⟨-, rfl⟩ := ax_ws_of hi
    obtain ⟨-, rfl⟩ := ax_ws_of hj
    exact Nat.add_left_cancel he
  · obtain ⟨-, rfl⟩ := ax_ws_of hk
    exact Nat.le_add_right _ _
/-- one cell is another: the world with it -/
theorem ax_ws_set {T : Nat → ClassId} {o : Nat} {G G' : ax_G} {I I' : ax_I} {L L' : ax_L} {a : Nat} {e : va_E} (ha : a < ax_top G) (ht : ax_top G' = ax_top G) (he : ax_ent T o G' I' L' a = e) (hk : ∀ k, k ≠ a → ax_ent T o G' I' L' k = ax_ent T o G I L k) : (ax_ws T o G I L).set a (o + a, e) = ax_ws T o G' I' L' := by
  apply List.ext_getElem?
  intro k
  rw [List.getElem?_set]
  by_cases h : a = k
  · subst h
    rw [if_pos rfl, if_pos (by rw [ax_ws_len]; exact ha), ax_ws_at (by rw [ht]; exact ha), he]
  · rw [if_neg h]
    by_cases hlt : k < ax_top G
    · rw [ax_ws_at hlt, ax_ws_at (by rw [ht]; exact hlt), hk k (fun z => h z.symm)]
    · rw [List.getElem?_eq_none (by rw [ax_ws_len]; omega), List.getElem?_eq_none (by rw [ax_ws_len, ht]; omega)]
/-- a new cell at the end -/
theorem ax_ws_push {T : Nat → ClassId} {o : Nat} {G G' : ax_G} {I I' : ax_I} {L L' : ax_L} {e : va_E} (ht : ax_top G' = ax_top G + 1) (he : ax_ent T o G' I' L' (ax_top G) = e) (hk : ∀ k, k < ax_top G → ax_ent T o G' I' L' k = ax_ent T o G I L k) : ax_ws T o G I L ++ [(o + ax_top G, e)] = ax_ws T o G' I' L' := by
  apply List.ext_getElem?
  intro k
  rcases Nat.lt_trichotomy k (ax_top G) with h | h | h
  · rw [List.getElem?_append_left (by rw [ax_ws_len]; exact h), ax_ws_at h, ax_ws_at (by rw [ht]; omega), hk k h]
  · subst h
    rw [List.getElem?_append_right (by rw [ax_ws_len]; exact Nat.le_refl _), ax_ws_len, Nat.sub_self, ax_ws_at (by rw [ht]; omega), he]
    rfl
  · rw [List.getElem?_eq_none (by rw [List.length_append, ax_ws_len]; show ax_top G + 1 ≤ k; omega), List.getElem?_eq_none (by rw [ax_ws_len, ht]; omega)]
/-- f, but v at place j of cell a -/
def ax_u {α : Type} (f : Nat → Nat → α) (a j : Nat) (v : α) : Nat → Nat → α := fun b k => if b = a then (if k = j then v else f b k) else f b k
theorem ax_u_ne {α : Type} {f : Nat → Nat → α} {a j b : Nat} {v : α} (h : b ≠ a) : ax_u f a j v b = f b := by funext k; unfold ax_u; rw [if_neg h]
theorem ax_u_eq {α : Type} (f : Nat → Nat → α) (a j : Nat) (v : α) : ax_u f a j v a = fun k => if k = j then v else f a k := by funext k; unfold ax_u; rw [if_pos rfl]
theorem ax_u_at {α : Type} (f : Nat → Nat → α) (a j : Nat) (v : α) : ax_u f a j v a j = v := by rw [ax_u_eq]; exact if_pos rfl
theorem ax_u_nj {α : Type} {f : Nat → Nat → α} {a j k : Nat} {v : α} (h : k ≠ j) : ax_u f a j v a k = f a k := by rw [ax_u_eq]; exact if_neg h
/-! ===== locals ===== -/
def ax_lv (o : Nat) (lv : List (Nat × Value)) : List (Nat × Value) := lv.map (fun q => (q.1, ax_tr o q.2))
def ax_lk : List (Nat × Value) → Nat → Option Value
  | [], _ => none
  | (j, v) :: r, i => match Nat.beq j i with
    | true => some v
    | false => ax_lk r i
theorem ax_lk_mem {lv : List (Nat × Value)} {i : Nat} {v : Value} (h : ax_lk lv i = some v) : (i, v) ∈ lv := by
  induction lv with
  | nil => cases h
  | cons q r ih =>
    obtain ⟨j, x⟩ := q
    unfold ax_lk at h
    cases hb : Nat.beq j i with
    | true =>
      rw [hb] at h
      have hj : j = i := Nat.eq_of_beq_eq_true hb
      subst hj
      cases h
      exact List.mem_cons_self
    | false =>
      rw [hb] at h
      exact List.mem_cons_of_mem _ (ih h)
theorem ax_lget {ls : Array Slot} {nL o : Nat} {lv : List (Nat × Value)} {i : Nat} {v : Value} (h : lv_has ls nL (ax_lv o lv)) (hk : ax_lk lv i = some v) : ls[i]? = some (.val (ax_tr o v)) :=
  h.2.2 (i, ax_tr o v) (List.mem_map.mpr ⟨(i, v), ax_lk_mem hk, rfl⟩)
/-- a value of one word, of two words comes to a local -/
def ax_s1 (lv : List (Nat × Value)) (i : Nat) (v : Value) : List (Nat × Value) := (i, v) :: lv.filter (fun q => !(q.1 == i) && !(q.1 + 1 == i && q.2.category == 2))
def ax_s2 (lv : List (Nat × Value)) (i : Nat) (v : Value) : List (Nat × Value) := (i, v) :: lv.filter (fun q => !(q.1 == i) && (!(q.1 == i + 1) && !(q.1 + 1 == i && q.2.category == 2)))
theorem ax_lv_s1 (o : Nat) (lv : List (Nat × Value)) (i : Nat) (v : Value) : (i, ax_tr o v) :: (ax_lv o lv).filter (fun q => !(q.1 == i) && !(q.1 + 1 == i && q.2.category == 2)) = ax_lv o (ax_s1 lv i v) := by
  unfold ax_lv ax_s1
  rw [List.filter_map, List.map_cons]
  refine congrArg (fun z => (i, ax_tr o v) :: List.map (fun q : Nat × Value => (q.1, ax_tr o q.2)) z) ?_
  apply List.filter_congr
  intro q _
  simp only [Function.comp, ax_tr_cat]
theorem ax_lv_s2 (o : Nat) (lv : List (Nat × Value)) (i : Nat) (v : Value) : (i, ax_tr o v) :: (ax_lv o lv).filter (fun q => !(q.1 == i) && (!(q.1 == i + 1) && !(q.1 + 1 == i && q.2.category == 2))) = ax_lv o (ax_s2 lv i v) := by
  unfold ax_lv ax_s2
  rw [List.filter_map, List.map_cons]
  refine congrArg (fun z => (i, ax_tr o v) :: List.map (fun q : Nat × Value => (q.1, ax_tr o q.2)) z) ?_
  apply List.filter_congr
  intro q _
  simp only [Function.comp, ax_tr_cat]
theorem ax_lv_args (o : Nat) (vs : List Value) : ∀ i : Nat, lv_args i (vs.map (ax_tr o)) = ax_lv o (lv_args i vs) := by
  induction vs with
  | nil => intro i; rfl
  | cons v vs ih => intro i; simp only [List.map_cons, lv_args, ax_tr_cat, ih]; first | rfl | (simp [ax_lv]; done)
/-! ===== what a method of ours stands on, and the judgement ===== -/
def ax_C (p : Program) (s : State) (m : MethodId) (args : Array Value) (meth : Method) (c : Code) (cc : ByteArray) (nL : Nat) (own nm : String) (ret : Option FieldType) (D : va_G) (T : Nat → ClassId) (o c0 : Nat) : Prop :=
  p.tables.exec = Jvm.exec ∧ c.code = cc ∧ c.maxLocals = nL ∧ s.vm.findClass own = some m.cls ∧ (∀ w ∈ lw_use, w.before args s = true) ∧ va_K D vwCl (ax_tys T) s ∧ meth.locks = false ∧ meth.sig.returnType = ret ∧ meth.name = nm ∧ s.heap.size = o + c0 ∧ ax_NS s
/-- from the memory G, I, L, at pc with locals lv and stack st, the machine comes to Q -/
def ax_X (p : Program) (l : Launch) (e : Env) (R : Room) (s : State) (m : MethodId) (args : Array Value) (below : List Frame) (meth : Method) (c : Code) (nL : Nat) (D : va_G) (T : Nat → ClassId) (o c0 u0 : Nat) (Q : State → Prop) (G : ax_G) (I : ax_I) (L : ax_L) (pc : Nat) (lv : List (Nat × Value)) (st : List Value) : Prop :=
  ∀ (H : Heap) (locs : List Loc) (ls : Array Slot), c0 ≤ ax_top G → u0 ≤ ax_used G → lv_has ls nL (ax_lv o lv) → ax_P D T o G I L H → va_S (fun q => o ≤ q) s.heap H locs →
    W p l e R s m args below meth c H locs (ax_top G - c0) (ax_used G - u0) Q (F0 m pc ls (st.map (ax_tr o)))
/-- a method's instruction, out of its list -/
theorem dk {b : ByteArray} {l : List (Nat × Instr × Nat)} (h : ∀ q ∈ l, decode b q.1 = .ok (q.2.1, q.2.2)) (i : Nat) {pc : Nat} {x : Instr} {n : Nat} (hi : l[i]? = some (pc, x, n)) : decode b pc = .ok (x, n) := by
  have h1 := h (pc, x, n) (List.mem_of_getElem? hi)
  exact h1
section AXP
variable {p : Program} {l : Launch} {e : Env} {R : Room} {s : State} {m : MethodId} {args : Array Value} {below : List Frame} {meth : Method} {c : Code}
variable {cc : ByteArray} {nL : Nat} {own nm : String} {ret : Option FieldType} {D : va_G} {T : Nat → ClassId} {o c0 u0 : Nat} {Q : State → Prop}
variable {G : ax_G} {I : ax_I} {L : ax_L} {pc : Nat} {lv : List (Nat × Value)} {st : List Value}
theorem x_iconst (C : ax_C p s m args meth c cc nL own nm ret D T o c0) {n : Int} {v : Int32} (hdg : decode cc pc = .ok (.iconst n, 1)) (hv : Int32.ofInt n = v) (k : ax_X p l e R s m args below meth c nL D T o c0 u0 Q G I L (pc + 1) lv (.int v :: st)) : ax_X p l e R s m args below meth c nL D T o c0 u0 Q G I L pc lv st :=
  fun H locs ls a1 a2 a3 a4 a5 => lv_iconst C.1 C.2.1 hdg hv (k H locs ls a1 a2 a3 a4 a5)
theorem x_bipush (C : ax_C p s m args meth c cc nL own nm ret D T o c0) {n : Int} {v : Int32} (hdg : decode cc pc = .ok (.bipush n, 2)) (hv : (Int8.ofInt n).toInt32 = v) (k : ax_X p l e R s m args below meth c nL D T o c0 u0 Q G I L (pc + 2) lv (.int v :: st)) : ax_X p l e R s m args below meth c nL D T o c0 u0 Q G I L pc lv st :=
  fun H locs ls a1 a2 a3 a4 a5 => lv_bipush C.1 C.2.1 hdg hv (k H locs ls a1 a2 a3 a4 a5)
theorem x_sipush (C : ax_C p s m args meth c cc nL own nm ret D T o c0) {n : Int} {v : Int32} (hdg : decode cc pc = .ok (.sipush n, 3)) (hv : (Int16.ofInt n).toInt32 = v) (k : ax_X p l e R s m args below meth c nL D T o c0 u0 Q G I L (pc + 3) lv (.int v :: st)) : ax_X p l e R s m args below meth c nL D T o c0 u0 Q G I L pc lv st :=
  fun H locs ls a1 a2 a3 a4 a5 => lv_sipush C.1 C.2.1 hdg hv (k H locs ls a1 a2 a3 a4 a5)
theorem x_lconst (C : ax_C p s m args meth c cc nL own nm ret D T o c0) {n : Fin 2} {v : Int64} (hdg : decode cc pc = .ok (.lconst n, 1)) (hv : Int64.ofNat (n : Nat) = v) (k : ax_X p l e R s m args below meth c nL D T o c0 u0 Q G I L (pc + 1) lv (.long v :: st)) : ax_X p l e R s m args below meth c nL D T o c0 u0 Q G I L pc lv st :=
  fun H locs ls a1 a2 a3 a4 a5 => lv_lconst C.1 C.2.1 hdg hv (k H locs ls a1 a2 a3 a4 a5)
theorem x_ldc2 (C : ax_C p s m args meth c cc nL own nm ret D T o c0) {index : Nat} {v : Int64} (hw : Cond.constantLong own index v ∈ lw_use) (hdg : decode cc pc = .ok (.ldc2_w index, 3)) (k : ax_X p l e R s m args below meth c nL D T o c0 u0 Q G I L (pc + 3) lv (.long v :: st)) : ax_X p l e R s m args below meth c nL D T o c0 u0 Q G I L pc lv st :=
  fun H locs ls a1 a2 a3 a4 a5 => lv_ldc2 C.1 C.2.1 C.2.2.2.1 (C.2.2.2.2.1 _ hw) hdg (k H locs ls a1 a2 a3 a4 a5)
theorem x_iload_n (C : ax_C p s m args meth c cc nL own nm ret D T o c0) {i : Fin 4} {x : Int32} (hdg : decode cc pc = .ok (.iload_n i, 1)) (hl : ax_lk lv i = some (.int x)) (k : ax_X p l e R s m args below meth c nL D T o c0 u0 Q G I L (pc + 1) lv (.int x :: st)) : ax_X p l e R s m args below meth c nL D T o c0 u0 Q G I L pc lv st :=
  fun H locs ls a1 a2 a3 a4 a5 => lv_iload_n C.1 C.2.1 hdg rfl (ax_lget a3 hl) (k H locs ls a1 a2 a3 a4 a5)
theorem x_iload (C : ax_C p s m args meth c cc nL own nm ret D T o c0) {i : Nat} {x : Int32} (hdg : decode cc pc = .ok (.iload i, 2)) (hl : ax_lk lv i = some (.int x)) (k : ax_X p l e R s m args below meth c nL D T o c0 u0 Q G I L (pc + 2) lv (.int x :: st)) : ax_X p l e R s m args below meth c nL D T o c0 u0 Q G I L pc lv st :=
  fun H locs ls a1 a2 a3 a4 a5 => lv_iload C.1 C.2.1 hdg (ax_lget a3 hl) (k H locs ls a1 a2 a3 a4 a5)
theorem x_lload_n (C : ax_C p s m args meth c cc nL own nm ret D T o c0) {i : Fin 4} {x : Int64} (hdg : decode cc pc = .ok (.lload_n i, 1)) (hl : ax_lk lv i = some (.long x)) (k : ax_X p l e R s m args below meth c nL D T o c0 u0 Q G I L (pc + 1) lv (.long x :: st)) : ax_X p l e R s m args below meth c nL D T o c0 u0 Q G I L pc lv st :=
  fun H locs ls a1 a2 a3 a4 a5 => lv_lload_n C.1 C.2.1 hdg rfl (ax_lget a3 hl) (k H locs ls a1 a2 a3 a4 a5)
theorem x_lload (C : ax_C p s m args meth c cc nL own nm ret D T o c0) {i : Nat} {x : Int64} (hdg : decode cc pc = .ok (.lload i, 2)) (hl : ax_lk lv i = some (.long x)) (k : ax_X p l e R s m args below meth c nL D T o c0 u0 Q G I L (pc + 2) lv (.long x :: st)) : ax_X p l e R s m args below meth c nL D T o c0 u0 Q G I L pc lv st :=
  fun H locs ls a1 a2 a3 a4 a5 => lv_lload C.1 C.2.1 hdg (ax_lget a3 hl) (k H locs ls a1 a2 a3 a4 a5)
theorem x_aload_n (C : ax_C p s m args meth c cc nL own nm ret D T o c0) {i : Fin 4} {x : Nat} (hdg : decode cc pc = .ok (.aload_n i, 1)) (hl : ax_lk lv i = some (.ref x)) (k : ax_X p l e R s m args below meth c nL D T o c0 u0 Q G I L (pc + 1) lv (.ref x :: st)) : ax_X p l e R s m args below meth c nL D T o c0 u0 Q G I L pc lv st :=
  fun H locs ls a1 a2 a3 a4 a5 => lv_aload_n C.1 C.2.1 hdg rfl (ax_lget a3 hl) (k H locs ls a1 a2 a3 a4 a5)
theorem x_aload (C : ax_C p s m args meth c cc nL own nm ret D T o c0) {i : Nat} {x : Nat} (hdg : decode cc pc = .ok (.aload i, 2)) (hl : ax_lk lv i = some (.ref x)) (k : ax_X p l e R s m args below meth c nL D T o c0 u0 Q G I L (pc + 2) lv (.ref x :: st)) : ax_X p l e R s m args below meth c nL D T o c0 u0 Q G I L pc lv st :=
  fun H locs ls a1 a2 a3 a4 a5 => lv_aload C.1 C.2.1 hdg (ax_lget a3 hl) (k H locs ls a1 a2 a3 a4 a5)
theorem x_istore_n (C : ax_C p s m args meth c cc nL own nm ret D T o c0) {i : Fin 4} {x : Int32} {lv' : List (Nat × Value)} (hdg : decode cc pc = .ok (.istore_n i, 1)) (hn : (i : Nat) < nL) (hl : ax_s1 lv i (.int x) = lv') (k : ax_X p l e R s m args below meth c nL D T o c0 u0 Q G I L (pc + 1) lv' st) : ax_X p l e R s m args below meth c nL D T o c0 u0 Q G I L pc lv (.int x :: st) :=
  fun H locs ls a1 a2 a3 a4 a5 => lv_istore_n C.1 C.2.1 hdg rfl a3 hn (ax_lv_s1 o lv i (.int x)) (fun ls' h => k H locs ls' a1 a2 (hl ▸ h) a4 a5)
theorem x_istore (C : ax_C p s m args meth c cc nL own nm ret D T o c0) {i : Nat} {x : Int32} {lv' : List (Nat × Value)} (hdg : decode cc pc = .ok (.istore i, 2)) (hn : i < nL) (hl : ax_s1 lv i (.int x) = lv') (k : ax_X p l e R s m args below meth c nL D T o c0 u0 Q G I L (pc + 2) lv' st) : ax_X p l e R s m args below meth c nL D T o c0 u0 Q G I L pc lv (.int x :: st) :=
  fun H locs ls a1 a2 a3 a4 a5 => lv_istore C.1 C.2.1 hdg a3 hn (ax_lv_s1 o lv i (.int x)) (fun ls' h => k H locs ls' a1 a2 (hl ▸ h) a4 a5)
theorem x_lstore_n (C : ax_C p s m args meth c cc nL own nm ret D T o c0) {i : Fin 4} {x : Int64} {lv' : List (Nat × Value)} (hdg : decode cc pc = .ok (.lstore_n i, 1)) (hn : (i : Nat) + 1 < nL) (hl : ax_s2 lv i (.long x) = lv') (k : ax_X p l e R s m args below meth c nL D T o c0 u0 Q G I L (pc + 1) lv' st) : ax_X p l e R s m args below meth c nL D T o c0 u0 Q G I L pc lv (.long x :: st) :=
  fun H locs ls a1 a2 a3 a4 a5 => lv_lstore_n C.1 C.2.1 hdg rfl a3 hn (ax_lv_s2 o lv i (.long x)) (fun ls' h => k H locs ls' a1 a2 (hl ▸ h) a4 a5)
theorem x_lstore (C : ax_C p s m args meth c cc nL own nm ret D T o c0) {i : Nat} {x : Int64} {lv' : List (Nat × Value)} (hdg : decode cc pc = .ok (.lstore i, 2)) (hn : i + 1 < nL) (hl : ax_s2 lv i (.long x) = lv') (k : ax_X p l e R s m args below meth c nL D T o c0 u0 Q G I L (pc + 2) lv' st) : ax_X p l e R s m args below meth c nL D T o c0 u0 Q G I L pc lv (.long x :: st) :=
  fun H locs ls a1 a2 a3 a4 a5 => lv_lstore C.1 C.2.1 hdg a3 hn (ax_lv_s2 o lv i (.long x)) (fun ls' h => k H locs ls' a1 a2 (hl ▸ h) a4 a5)
theorem x_astore_n (C : ax_C p s m args meth c cc nL own nm ret D T o c0) {i : Fin 4} {x : Nat} {lv' : List (Nat × Value)} (hdg : decode cc pc = .ok (.astore_n i, 1)) (hn : (i : Nat) < nL) (hl : ax_s1 lv i (.ref x) = lv') (k : ax_X p l e R s m args below meth c nL D T o c0 u0 Q G I L (pc + 1) lv' st) : ax_X p l e R s m args below meth c nL D T o c0 u0 Q G I L pc lv (.ref x :: st) :=
  fun H locs ls a1 a2 a3 a4 a5 => lv_astore_n C.1 C.2.1 hdg rfl a3 hn (ax_lv_s1 o lv i (.ref x)) (fun ls' h => k H locs ls' a1 a2 (hl ▸ h) a4 a5)
theorem x_astore (C : ax_C p s m args meth c cc nL own nm ret D T o c0) {i : Nat} {x : Nat} {lv' : List (Nat × Value)} (hdg : decode cc pc = .ok (.astore i, 2)) (hn : i < nL) (hl : ax_s1 lv i (.ref x) = lv') (k : ax_X p l e R s m args below meth c nL D T o c0 u0 Q G I L (pc + 2) lv' st) : ax_X p l e R s m args below meth c nL D T o c0 u0 Q G I L pc lv (.ref x :: st) :=
  fun H locs ls a1 a2 a3 a4 a5 => lv_astore C.1 C.2.1 hdg a3 hn (ax_lv_s1 o lv i (.ref x)) (fun ls' h => k H locs ls' a1 a2 (hl ▸ h) a4 a5)
theorem x_iinc (C : ax_C p s m args meth c cc nL own nm ret D T o c0) {i : Nat} {n : Int} {x v : Int32} {lv' : List (Nat × Value)} (hdg : decode cc pc = .ok (.iinc i n, 3)) (hk : ax_lk lv i = some (.int x)) (hv : x + Int32.ofInt n = v) (hn : i < nL) (hl : ax_s1 lv i (.int v) = lv') (k : ax_X p l e R s m args below meth c nL D T o c0 u0 Q G I L (pc + 3) lv' st) : ax_X p l e R s m args below meth c nL D T o c0 u0 Q G I L pc lv st := by
  intro H locs ls a1 a2 a3 a4 a5
  obtain ⟨q, hq⟩ := List.getElem?_of_mem (List.mem_map.mpr ⟨(i, .int x), ax_lk_mem hk, rfl⟩ : (i, ax_tr o (.int x)) ∈ ax_lv o lv)
  exact lv_iinc C.1 C.2.1 hdg a3 (k := q) hq hv hn (ax_lv_s1 o lv i (.int v)) (fun ls' h => k H locs ls' a1 a2 (hl ▸ h) a4 a5)
theorem x_iadd (C : ax_C p s m args meth c cc nL own nm ret D T o c0) {x y : Int32} (hdg : decode cc pc = .ok (.iadd, 1))  (k : ax_X p l e R s m args below meth c nL D T o c0 u0 Q G I L (pc + 1) lv (.int (x + y) :: st)) : ax_X p l e R s m args below meth c nL D T o c0 u0 Q G I L pc lv (.int y :: .int x :: st) :=
  fun H locs ls a1 a2 a3 a4 a5 => lv_iadd C.1 C.2.1 hdg (k H locs ls a1 a2 a3 a4 a5)
theorem x_isub (C : ax_C p s m args meth c cc nL own nm ret D T o c0) {x y : Int32} (hdg : decode cc pc = .ok (.isub, 1))  (k : ax_X p l e R s m args below meth c nL D T o c0 u0 Q G I L (pc + 1) lv (.int (x - y) :: st)) : ax_X p l e R s m args below meth c nL D T o c0 u0 Q G I L pc lv (.int y :: .int x :: st) :=
  fun H locs ls a1 a2 a3 a4 a5 => lv_isub C.1 C.2.1 hdg (k H locs ls a1 a2 a3 a4 a5)
theorem x_imul (C : ax_C p s m args meth c cc nL own nm ret D T o c0) {x y : Int32} (hdg : decode cc pc = .ok (.imul, 1))  (k : ax_X p l e R s m args below meth c nL D T o c0 u0 Q G I L (pc + 1) lv (.int (x * y) :: st)) : ax_X p l e R s m args below meth c nL D T o c0 u0 Q G I L pc lv (.int y :: .int x :: st) :=
  fun H locs ls a1 a2 a3 a4 a5 => lv_imul C.1 C.2.1 hdg (k H locs ls a1 a2 a3 a4 a5)
theorem x_iand (C : ax_C p s m args meth c cc nL own nm ret D T o c0) {x y : Int32} (hdg : decode cc pc = .ok (.iand, 1))  (k : ax_X p l e R s m args below meth c nL D T o c0 u0 Q G I L (pc + 1) lv (.int (x &&& y) :: st)) : ax_X p l e R s m args below meth c nL D T o c0 u0 Q G I L pc lv (.int y :: .int x :: st) :=
  fun H locs ls a1 a2 a3 a4 a5 => lv_iand C.1 C.2.1 hdg (k H locs ls a1 a2 a3 a4 a5)
theorem x_ior (C : ax_C p s m args meth c cc nL own nm ret D T o c0) {x y : Int32} (hdg : decode cc pc = .ok (.ior, 1))  (k : ax_X p l e R s m args below meth c nL D T o c0 u0 Q G I L (pc + 1) lv (.int (x ||| y) :: st)) : ax_X p l e R s m args below meth c nL D T o c0 u0 Q G I L pc lv (.int y :: .int x :: st) :=
  fun H locs ls a1 a2 a3 a4 a5 => lv_ior C.1 C.2.1 hdg (k H locs ls a1 a2 a3 a4 a5)
theorem x_ladd (C : ax_C p s m args meth c cc nL own nm ret D T o c0) {x y : Int64} (hdg : decode cc pc = .ok (.ladd, 1))  (k : ax_X p l e R s m args below meth c nL D T o c0 u0 Q G I L (pc + 1) lv (.long (x + y) :: st)) : ax_X p l e R s m args below meth c nL D T o c0 u0 Q G I L pc lv (.long y :: .long x :: st) :=
  fun H locs ls a1 a2 a3 a4 a5 => lv_ladd C.1 C.2.1 hdg (k H locs ls a1 a2 a3 a4 a5)
theorem x_lsub (C : ax_C p s m args meth c cc nL own nm ret D T o c0) {x y : Int64} (hdg : decode cc pc = .ok (.lsub, 1))  (k : ax_X p l e R s m args below meth c nL D T o c0 u0 Q G I L (pc + 1) lv (.long (x - y) :: st)) : ax_X p l e R s m args below meth c nL D T o c0 u0 Q G I L pc lv (.long y :: .long x :: st) :=
  fun H locs ls a1 a2 a3 a4 a5 => lv_lsub C.1 C.2.1 hdg (k H locs ls a1 a2 a3 a4 a5)
theorem x_lmul (C : ax_C p s m args meth c cc nL own nm ret D T o c0) {x y : Int64} (hdg : decode cc pc = .ok (.lmul, 1))  (k : ax_X p l e R s m args below meth c nL D T o c0 u0 Q G I L (pc + 1) lv (.long (x * y) :: st)) : ax_X p l e R s m args below meth c nL D T o c0 u0 Q G I L pc lv (.long y :: .long x :: st) :=
  fun H locs ls a1 a2 a3 a4 a5 => lv_lmul C.1 C.2.1 hdg (k H locs ls a1 a2 a3 a4 a5)
theorem x_land (C : ax_C p s m args meth c cc nL own nm ret D T o c0) {x y : Int64} (hdg : decode cc pc = .ok (.land, 1))  (k : ax_X p l e R s m args below meth c nL D T o c0 u0 Q G I L (pc + 1) lv (.long (x &&& y) :: st)) : ax_X p l e R s m args below meth c nL D T o c0 u0 Q G I L pc lv (.long y :: .long x :: st) :=
  fun H locs ls a1 a2 a3 a4 a5 => lv_land C.1 C.2.1 hdg (k H locs ls a1 a2 a3 a4 a5)
theorem x_lor (C : ax_C p s m args meth c cc nL own nm ret D T o c0) {x y : Int64} (hdg : decode cc pc = .ok (.lor, 1))  (k : ax_X p l e R s m args below meth c nL D T o c0 u0 Q G I L (pc + 1) lv (.long (x ||| y) :: st)) : ax_X p l e R s m args below meth c nL D T o c0 u0 Q G I L pc lv (.long y :: .long x :: st) :=
  fun H locs ls a1 a2 a3 a4 a5 => lv_lor C.1 C.2.1 hdg (k H locs ls a1 a2 a3 a4 a5)
theorem x_lxor (C : ax_C p s m args meth c cc nL own nm ret D T o c0) {x y : Int64} (hdg : decode cc pc = .ok (.lxor, 1))  (k : ax_X p l e R s m args below meth c nL D T o c0 u0 Q G I L (pc + 1) lv (.long (x ^^^ y) :: st)) : ax_X p l e R s m args below meth c nL D T o c0 u0 Q G I L pc lv (.long y :: .long x :: st) :=
  fun H locs ls a1 a2 a3 a4 a5 => lv_lxor C.1 C.2.1 hdg (k H locs ls a1 a2 a3 a4 a5)
theorem x_idiv (C : ax_C p s m args meth c cc nL own nm ret D T o c0) {x y : Int32} (hdg : decode cc pc = .ok (.idiv, 1)) (hne : ¬ y = 0) (k : ax_X p l e R s m args below meth c nL D T o c0 u0 Q G I L (pc + 1) lv (.int (x / y) :: st)) : ax_X p l e R s m args below meth c nL D T o c0 u0 Q G I L pc lv (.int y :: .int x :: st) :=
  fun H locs ls a1 a2 a3 a4 a5 => lv_idiv C.1 C.2.1 hdg hne (k H locs ls a1 a2 a3 a4 a5)
theorem x_irem (C : ax_C p s m args meth c cc nL own nm ret D T o c0) {x y : Int32} (hdg : decode cc pc = .ok (.irem, 1)) (hne : ¬ y = 0) (k : ax_X p l e R s m args below meth c nL D T o c0 u0 Q G I L (pc + 1) lv (.int (x - x / y * y) :: st)) : ax_X p l e R s m args below meth c nL D T o c0 u0 Q G I L pc lv (.int y :: .int x :: st) :=
  fun H locs ls a1 a2 a3 a4 a5 => lv_irem C.1 C.2.1 hdg hne (k H locs ls a1 a2 a3 a4 a5)
theorem x_ldiv (C : ax_C p s m args meth c cc nL own nm ret D T o c0) {x y : Int64} (hdg : decode cc pc = .ok (.ldiv, 1)) (hne : ¬ y = 0) (k : ax_X p l e R s m args below meth c nL D T o c0 u0 Q G I L (pc + 1) lv (.long (x / y) :: st)) : ax_X p l e R s m args below meth c nL D T o c0 u0 Q G I L pc lv (.long y :: .long x :: st) :=
  fun H locs ls a1 a2 a3 a4 a5 => lv_ldiv C.1 C.2.1 hdg hne (k H locs ls a1 a2 a3 a4 a5)
theorem x_lrem (C : ax_C p s m args meth c cc nL own nm ret D T o c0) {x y : Int64} (hdg : decode cc pc = .ok (.lrem, 1)) (hne : ¬ y = 0) (k : ax_X p l e R s m args below meth c nL D T o c0 u0 Q G I L (pc + 1) lv (.long (x - x / y * y) :: st)) : ax_X p l e R s m args below meth c nL D T o c0 u0 Q G I L pc lv (.long y :: .long x :: st) :=
  fun H locs ls a1 a2 a3 a4 a5 => lv_lrem C.1 C.2.1 hdg hne (k H locs ls a1 a2 a3 a4 a5)
theorem x_lneg (C : ax_C p s m args meth c cc nL own nm ret D T o c0) {x : Int64} (hdg : decode cc pc = .ok (.lneg, 1))  (k : ax_X p l e R s m args below meth c nL D T o c0 u0 Q G I L (pc + 1) lv (.long (-x) :: st)) : ax_X p l e R s m args below meth c nL D T o c0 u0 Q G I L pc lv (.long x :: st) :=
  fun H locs ls a1 a2 a3 a4 a5 => lv_lneg C.1 C.2.1 hdg (k H locs ls a1 a2 a3 a4 a5)
theorem x_ishl (C : ax_C p s m args meth c cc nL own nm ret D T o c0) {x y : Int32} (hdg : decode cc pc = .ok (.ishl, 1))  (k : ax_X p l e R s m args below meth c nL D T o c0 u0 Q G I L (pc + 1) lv (.int (x <<< (y &&& 31)) :: st)) : ax_X p l e R s m args below meth c nL D T o c0 u0 Q G I L pc lv (.int y :: .int x :: st) :=
  fun H locs ls a1 a2 a3 a4 a5 => lv_ishl C.1 C.2.1 hdg (k H locs ls a1 a2 a3 a4 a5)
theorem x_lshl (C : ax_C p s m args meth c cc nL own nm ret D T o c0) {x : Int64} {y : Int32} (hdg : decode cc pc = .ok (.lshl, 1))  (k : ax_X p l e R s m args below meth c nL D T o c0 u0 Q G I L (pc + 1) lv (.long (x <<< (y.toInt64 &&& 63)) :: st)) : ax_X p l e R s m args below meth c nL D T o c0 u0 Q G I L pc lv (.int y :: .long x :: st) :=
  fun H locs ls a1 a2 a3 a4 a5 => lv_lshl C.1 C.2.1 hdg rfl (k H locs ls a1 a2 a3 a4 a5)
theorem x_lushr (C : ax_C p s m args meth c cc nL own nm ret D T o c0) {x : Int64} {y : Int32} (hdg : decode cc pc = .ok (.lushr, 1))  (k : ax_X p l e R s m args below meth c nL D T o c0 u0 Q G I L (pc + 1) lv (.long (x.toUInt64 >>> (y.toInt64.toUInt64 &&& Int64.toUInt64 63)).toInt64 :: st)) : ax_X p l e R s m args below meth c nL D T o c0 u0 Q G I L pc lv (.int y :: .long x :: st) :=
  fun H locs ls a1 a2 a3 a4 a5 => lv_lushr C.1 C.2.1 hdg rfl (k H locs ls a1 a2 a3 a4 a5)
theorem x_i2l (C : ax_C p s m args meth c cc nL own nm ret D T o c0) {x : Int32} (hdg : decode cc pc = .ok (.i2l, 1))  (k : ax_X p l e R s m args below meth c nL D T o c0 u0 Q G I L (pc + 1) lv (.long x.toInt64 :: st)) : ax_X p l e R s m args below meth c nL D T o c0 u0 Q G I L pc lv (.int x :: st) :=
  fun H locs ls a1 a2 a3 a4 a5 => lv_i2l C.1 C.2.1 hdg rfl (k H locs ls a1 a2 a3 a4 a5)
theorem x_l2i (C : ax_C p s m args meth c cc nL own nm ret D T o c0) {x : Int64} (hdg : decode cc pc = .ok (.l2i, 1))  (k : ax_X p l e R s m args below meth c nL D T o c0 u0 Q G I L (pc + 1) lv (.int x.toInt32 :: st)) : ax_X p l e R s m args below meth c nL D T o c0 u0 Q G I L pc lv (.long x :: st) :=
  fun H locs ls a1 a2 a3 a4 a5 => lv_l2i C.1 C.2.1 hdg rfl (k H locs ls a1 a2 a3 a4 a5)
theorem x_i2b (C : ax_C p s m args meth c cc nL own nm ret D T o c0) {x : Int32} (hdg : decode cc pc = .ok (.i2b, 1))  (k : ax_X p l e R s m args below meth c nL D T o c0 u0 Q G I L (pc + 1) lv (.int x.toInt8.toInt32 :: st)) : ax_X p l e R s m args below meth c nL D T o c0 u0 Q G I L pc lv (.int x :: st) :=
  fun H locs ls a1 a2 a3 a4 a5 => lv_i2b C.1 C.2.1 hdg rfl (k H locs ls a1 a2 a3 a4 a5)
theorem x_lcmp (C : ax_C p s m args meth c cc nL own nm ret D T o c0) {x y : Int64} (hdg : decode cc pc = .ok (.lcmp, 1)) (k : ax_X p l e R s m args below meth c nL D T o c0 u0 Q G I L (pc + 1) lv (.int (lg_cmp x y) :: st)) : ax_X p l e R s m args below meth c nL D T o c0 u0 Q G I L pc lv (.long y :: .long x :: st) :=
  fun H locs ls a1 a2 a3 a4 a5 => W.lcmp C.1 C.2.1 hdg (k H locs ls a1 a2 a3 a4 a5)
theorem x_dup (C : ax_C p s m args meth c cc nL own nm ret D T o c0) {va : Value} (hdg : decode cc pc = .ok (.dup, 1)) (hva : va.category = 1) (k : ax_X p l e R s m args below meth c nL D T o c0 u0 Q G I L (pc + 1) lv (va :: va :: st)) : ax_X p l e R s m args below meth c nL D T o c0 u0 Q G I L pc lv (va :: st) :=
  fun H locs ls a1 a2 a3 a4 a5 => lv_dup C.1 C.2.1 hdg ((ax_tr_cat o va).trans hva) (k H locs ls a1 a2 a3 a4 a5)
theorem x_pop (C : ax_C p s m args meth c cc nL own nm ret D T o c0) {va : Value} (hdg : decode cc pc = .ok (.pop, 1)) (hva : va.category = 1) (k : ax_X p l e R s m args below meth c nL D T o c0 u0 Q G I L (pc + 1) lv st) : ax_X p l e R s m args below meth c nL D T o c0 u0 Q G I L pc lv (va :: st) :=
  fun H locs ls a1 a2 a3 a4 a5 => lv_pop C.1 C.2.1 hdg ((ax_tr_cat o va).trans hva) (k H locs ls a1 a2 a3 a4 a5)
theorem x_dup2 (C : ax_C p s m args meth c cc nL own nm ret D T o c0) {va vb : Value} (hdg : decode cc pc = .ok (.dup2, 1)) (hva : va.category = 1) (hvb : vb.category = 1) (k : ax_X p l e R s m args below meth c nL D T o c0 u0 Q G I L (pc + 1) lv (va :: vb :: va :: vb :: st)) : ax_X p l e R s m args below meth c nL D T o c0 u0 Q G I L pc lv (va :: vb :: st) :=
  fun H locs ls a1 a2 a3 a4 a5 => lv_dup2_11 C.1 C.2.1 hdg ((ax_tr_cat o va).trans hva) ((ax_tr_cat o vb).trans hvb) (k H locs ls a1 a2 a3 a4 a5)
theorem x_dup2_2 (C : ax_C p s m args meth c cc nL own nm ret D T o c0) {va : Value} (hdg : decode cc pc = .ok (.dup2, 1)) (hva : va.category = 2) (k : ax_X p l e R s m args below meth c nL D T o c0 u0 Q G I L (pc + 1) lv (va :: va :: st)) : ax_X p l e R s m args below meth c nL D T o c0 u0 Q G I L pc lv (va :: st) :=
  fun H locs ls a1 a2 a3 a4 a5 => lv_dup2_2 C.1 C.2.1 hdg ((ax_tr_cat o va).trans hva) (k H locs ls a1 a2 a3 a4 a5)
theorem x_if_eq (C : ax_C p s m args meth c cc nL own nm ret D T o c0) {x : Int32} {off : Int} {tgt : Nat} (hdg : decode cc pc = .ok (.ifCond .eq off, 3)) (ht : (pc : Int) + off = (tgt : Int)) (kt : x = 0 → ax_X p l e R s m args below meth c nL D T o c0 u0 Q G I L tgt lv st) (kf : ¬ x = 0 → ax_X p l e R s m args below meth c nL D T o c0 u0 Q G I L (pc + 3) lv st) : ax_X p l e R s m args below meth c nL D T o c0 u0 Q G I L pc lv (.int x :: st) :=
  fun H locs ls a1 a2 a3 a4 a5 => lv_if_eq C.1 C.2.1 hdg ht (fun h => kt h H locs ls a1 a2 a3 a4 a5) (fun h => kf h H locs ls a1 a2 a3 a4 a5)
theorem x_icmp_eq (C : ax_C p s m args meth c cc nL own nm ret D T o c0) {x y : Int32} {off : Int} {tgt : Nat} (hdg : decode cc pc = .ok (.if_icmp .eq off, 3)) (ht : (pc : Int) + off = (tgt : Int)) (kt : x = y → ax_X p l e R s m args below meth c nL D T o c0 u0 Q G I L tgt lv st) (kf : ¬ x = y → ax_X p l e R s m args below meth c nL D T o c0 u0 Q G I L (pc + 3) lv st) : ax_X p l e R s m args below meth c nL D T o c0 u0 Q G I L pc lv (.int y :: .int x :: st) :=
  fun H locs ls a1 a2 a3 a4 a5 => lv_icmp_eq C.1 C.2.1 hdg ht (fun h => kt h H locs ls a1 a2 a3 a4 a5) (fun h => kf h H locs ls a1 a2 a3 a4 a5)
theorem x_if_ne (C : ax_C p s m args meth c cc nL own nm ret D T o c0) {x : Int32} {off : Int} {tgt : Nat} (hdg : decode cc pc = .ok (.ifCond .ne off, 3)) (ht : (pc : Int) + off = (tgt : Int)) (kt : ¬ x = 0 → ax_X p l e R s m args below meth c nL D T o c0 u0 Q G I L tgt lv st) (kf : x = 0 → ax_X p l e R s m args below meth c nL D T o c0 u0 Q G I L (pc + 3) lv st) : ax_X p l e R s m args below meth c nL D T o c0 u0 Q G I L pc lv (.int x :: st) :=
  fun H locs ls a1 a2 a3 a4 a5 => lv_if_ne C.1 C.2.1 hdg ht (fun h => kt h H locs ls a1 a2 a3 a4 a5) (fun h => kf h H locs ls a1 a2 a3 a4 a5)
theorem x_icmp_ne (C : ax_C p s m args meth c cc nL own nm ret D T o c0) {x y : Int32} {off : Int} {tgt : Nat} (hdg : decode cc pc = .ok (.if_icmp .ne off, 3)) (ht : (pc : Int) + off = (tgt : Int)) (kt : ¬ x = y → ax_X p l e R s m args below meth c nL D T o c0 u0 Q G I L tgt lv st) (kf : x = y → ax_X p l e R s m args below meth c nL D T o c0 u0 Q G I L (pc + 3) lv st) : ax_X p l e R s m args below meth c nL D T o c0 u0 Q G I L pc lv (.int y :: .int x :: st) :=
  fun H locs ls a1 a2 a3 a4 a5 => lv_icmp_ne C.1 C.2.1 hdg ht (fun h => kt h H locs ls a1 a2 a3 a4 a5) (fun h => kf h H locs ls a1 a2 a3 a4 a5)
theorem x_if_lt (C : ax_C p s m args meth c cc nL own nm ret D T o c0) {x : Int32} {off : Int} {tgt : Nat} (hdg : decode cc pc = .ok (.ifCond .lt off, 3)) (ht : (pc : Int) + off = (tgt : Int)) (kt : x < 0 → ax_X p l e R s m args below meth c nL D T o c0 u0 Q G I L tgt lv st) (kf : ¬ x < 0 → ax_X p l e R s m args below meth c nL D T o c0 u0 Q G I L (pc + 3) lv st) : ax_X p l e R s m args below meth c nL D T o c0 u0 Q G I L pc lv (.int x :: st) :=
  fun H locs ls a1 a2 a3 a4 a5 => lv_if_lt C.1 C.2.1 hdg ht (fun h => kt h H locs ls a1 a2 a3 a4 a5) (fun h => kf h H locs ls a1 a2 a3 a4 a5)
theorem x_icmp_lt (C : ax_C p s m args meth c cc nL own nm ret D T o c0) {x y : Int32} {off : Int} {tgt : Nat} (hdg : decode cc pc = .ok (.if_icmp .lt off, 3)) (ht : (pc : Int) + off = (tgt : Int)) (kt : x < y → ax_X p l e R s m args below meth c nL D T o c0 u0 Q G I L tgt lv st) (kf : ¬ x < y → ax_X p l e R s m args below meth c nL D T o c0 u0 Q G I L (pc + 3) lv st) : ax_X p l e R s m args below meth c nL D T o c0 u0 Q G I L pc lv (.int y :: .int x :: st) :=
  fun H locs ls a1 a2 a3 a4 a5 => lv_icmp_lt C.1 C.2.1 hdg ht (fun h => kt h H locs ls a1 a2 a3 a4 a5) (fun h => kf h H locs ls a1 a2 a3 a4 a5)
theorem x_if_ge (C : ax_C p s m args meth c cc nL own nm ret D T o c0) {x : Int32} {off : Int} {tgt : Nat} (hdg : decode cc pc = .ok (.ifCond .ge off, 3)) (ht : (pc : Int) + off = (tgt : Int)) (kt : 0 ≤ x → ax_X p l e R s m args below meth c nL D T o c0 u0 Q G I L tgt lv st) (kf : ¬ 0 ≤ x → ax_X p l e R s m args below meth c nL D T o c0 u0 Q G I L (pc + 3) lv st) : ax_X p l e R s m args below meth c nL D T o c0 u0 Q G I L pc lv (.int x :: st) :=
  fun H locs ls a1 a2 a3 a4 a5 => lv_if_ge C.1 C.2.1 hdg ht (fun h => kt h H locs ls a1 a2 a3 a4 a5) (fun h => kf h H locs ls a1 a2 a3 a4 a5)
theorem x_icmp_ge (C : ax_C p s m args meth c cc nL own nm ret D T o c0) {x y : Int32} {off : Int} {tgt : Nat} (hdg : decode cc pc = .ok (.if_icmp .ge off, 3)) (ht : (pc : Int) + off = (tgt : Int)) (kt : y ≤ x → ax_X p l e R s m args below meth c nL D T o c0 u0 Q G I L tgt lv st) (kf : ¬ y ≤ x → ax_X p l e R s m args below meth c nL D T o c0 u0 Q G I L (pc + 3) lv st) : ax_X p l e R s m args below meth c nL D T o c0 u0 Q G I L pc lv (.int y :: .int x :: st) :=
  fun H locs ls a1 a2 a3 a4 a5 => lv_icmp_ge C.1 C.2.1 hdg ht (fun h => kt h H locs ls a1 a2 a3 a4 a5) (fun h => kf h H locs ls a1 a2 a3 a4 a5)
theorem x_if_gt (C : ax_C p s m args meth c cc nL own nm ret D T o c0) {x : Int32} {off : Int} {tgt : Nat} (hdg : decode cc pc = .ok (.ifCond .gt off, 3)) (ht : (pc : Int) + off = (tgt : Int)) (kt : 0 < x → ax_X p l e R s m args below meth c nL D T o c0 u0 Q G I L tgt lv st) (kf : ¬ 0 < x → ax_X p l e R s m args below meth c nL D T o c0 u0 Q G I L (pc + 3) lv st) : ax_X p l e R s m args below meth c nL D T o c0 u0 Q G I L pc lv (.int x :: st) :=
  fun H locs ls a1 a2 a3 a4 a5 => lv_if_gt C.1 C.2.1 hdg ht (fun h => kt h H locs ls a1 a2 a3 a4 a5) (fun h => kf h H locs ls a1 a2 a3 a4 a5)
theorem x_icmp_gt (C : ax_C p s m args meth c cc nL own nm ret D T o c0) {x y : Int32} {off : Int} {tgt : Nat} (hdg : decode cc pc = .ok (.if_icmp .gt off, 3)) (ht : (pc : Int) + off = (tgt : Int)) (kt : y < x → ax_X p l e R s m args below meth c nL D T o c0 u0 Q G I L tgt lv st) (kf : ¬ y < x → ax_X p l e R s m args below meth c nL D T o c0 u0 Q G I L (pc + 3) lv st) : ax_X p l e R s m args below meth c nL D T o c0 u0 Q G I L pc lv (.int y :: .int x :: st) :=
  fun H locs ls a1 a2 a3 a4 a5 => lv_icmp_gt C.1 C.2.1 hdg ht (fun h => kt h H locs ls a1 a2 a3 a4 a5) (fun h => kf h H locs ls a1 a2 a3 a4 a5)
theorem x_if_le (C : ax_C p s m args meth c cc nL own nm ret D T o c0) {x : Int32} {off : Int} {tgt : Nat} (hdg : decode cc pc = .ok (.ifCond .le off, 3)) (ht : (pc : Int) + off = (tgt : Int)) (kt : x ≤ 0 → ax_X p l e R s m args below meth c nL D T o c0 u0 Q G I L tgt lv st) (kf : ¬ x ≤ 0 → ax_X p l e R s m args below meth c nL D T o c0 u0 Q G I L (pc + 3) lv st) : ax_X p l e R s m args below meth c nL D T o c0 u0 Q G I L pc lv (.int x :: st) :=
  fun H locs ls a1 a2 a3 a4 a5 => lv_if_le C.1 C.2.1 hdg ht (fun h => kt h H locs ls a1 a2 a3 a4 a5) (fun h => kf h H locs ls a1 a2 a3 a4 a5)
theorem x_icmp_le (C : ax_C p s m args meth c cc nL own nm ret D T o c0) {x y : Int32} {off : Int} {tgt : Nat} (hdg : decode cc pc = .ok (.if_icmp .le off, 3)) (ht : (pc : Int) + off = (tgt : Int)) (kt : x ≤ y → ax_X p l e R s m args below meth c nL D T o c0 u0 Q G I L tgt lv st) (kf : ¬ x ≤ y → ax_X p l e R s m args below meth c nL D T o c0 u0 Q G I L (pc + 3) lv st) : ax_X p l e R s m args below meth c nL D T o c0 u0 Q G I L pc lv (.int y :: .int x :: st) :=
  fun H locs ls a1 a2 a3 a4 a5 => lv_icmp_le C.1 C.2.1 hdg ht (fun h => kt h H locs ls a1 a2 a3 a4 a5) (fun h => kf h H locs ls a1 a2 a3 a4 a5)
theorem x_goto (C : ax_C p s m args meth c cc nL own nm ret D T o c0) {off : Int} {tgt : Nat} (hdg : decode cc pc = .ok (.goto off, 3)) (ht : (pc : Int) + off = (tgt : Int)) (k : ax_X p l e R s m args below meth c nL D T o c0 u0 Q G I L tgt lv st) : ax_X p l e R s m args below meth c nL D T o c0 u0 Q G I L pc lv st :=
  fun H locs ls a1 a2 a3 a4 a5 => lv_goto C.1 C.2.1 hdg ht (k H locs ls a1 a2 a3 a4 a5)
theorem x_tableOut (C : ax_C p s m args meth c cc nL own nm ret D T o c0) {dflt lo hi : Int} {offs : Array Int} {len : Nat} {x : Int32} {tgt : Nat} (hdg : decode cc pc = .ok (.tableswitch dflt lo hi offs, len)) (h : x.toInt < lo ∨ hi < x.toInt) (ht : (pc : Int) + dflt = (tgt : Int)) (k : ax_X p l e R s m args below meth c nL D T o c0 u0 Q G I L tgt lv st) : ax_X p l e R s m args below meth c nL D T o c0 u0 Q G I L pc lv (.int x :: st) :=
  fun H locs ls a1 a2 a3 a4 a5 => lv_tableOut C.1 C.2.1 hdg h ht (k H locs ls a1 a2 a3 a4 a5)
theorem x_tableIn (C : ax_C p s m args meth c cc nL own nm ret D T o c0) {dflt lo hi : Int} {offs : Array Int} {len : Nat} {x : Int32} {off : Int} {tgt : Nat} (hdg : decode cc pc = .ok (.tableswitch dflt lo hi offs, len)) (h1 : ¬ x.toInt < lo) (h2 : ¬ hi < x.toInt) (ho : offs[(x.toInt - lo).toNat]? = some off) (ht : (pc : Int) + off = (tgt : Int)) (k : ax_X p l e R s m args below meth c nL D T o c0 u0 Q G I L tgt lv st) : ax_X p l e R s m args below meth c nL D T o c0 u0 Q G I L pc lv (.int x :: st) :=
  fun H locs ls a1 a2 a3 a4 a5 => lv_tableIn C.1 C.2.1 hdg h1 h2 ho ht (k H locs ls a1 a2 a3 a4 a5)
theorem x_lookup (C : ax_C p s m args meth c cc nL own nm ret D T o c0) {dflt : Int} {ps : Array (Int × Int)} {len : Nat} {x : Int32} {off : Int} {tgt : Nat} (hdg : decode cc pc = .ok (.lookupswitch dflt ps, len)) (hp : (ps.toList.zip (ps.toList.drop 1)).all (fun (a, next) => a.1 < next.1) = true) (ho : Op.lookupswitch.offset ps.toList dflt x.toInt = off) (ht : (pc : Int) + off = (tgt : Int)) (k : ax_X p l e R s m args below meth c nL D T o c0 u0 Q G I L tgt lv st) : ax_X p l e R s m args below meth c nL D T o c0 u0 Q G I L pc lv (.int x :: st) :=
  fun H locs ls a1 a2 a3 a4 a5 => lv_lookup C.1 C.2.1 hdg hp ho ht (k H locs ls a1 a2 a3 a4 a5)
end AXP

/-! ===== the law: its judgement, and rows ===== -/
def ax_Y (b0 : Nat) (p : Program) (l : Launch) (e : Env) (R : Room) (s : State) (m : MethodId) (args : Array Value) (below : List Frame) (meth : Method) (c : Code) (nL : Nat) (D : va_G) (T : Nat → ClassId) (o c0 u0 : Nat) (Q : State → Prop) (G : ax_G) (I : ax_I) (L : ax_L) (pc : Nat) (lv : List (Nat × Value)) (st : List Value) : Prop :=
  ∀ (H : Heap) (locs : List Loc) (ls : Array Slot), c0 ≤ ax_top G → u0 ≤ ax_used G → lv_has ls nL ((0, Value.ref b0) :: ax_lv o lv) → ax_P D T o G I L H → va_S (fun q => o ≤ q) s.heap H locs →
    W p l e R s m args below meth c H locs (ax_top G - c0) (ax_used G - u0) Q (F0 m pc ls (st.map (ax_tr o)))
section AYP
variable {p : Program} {l : Launch} {e : Env} {R : Room} {s : State} {m : MethodId} {args : Array Value} {below : List Frame} {meth : Method} {c : Code}
variable {cc : ByteArray} {nL b0 : Nat} {own nm : String} {ret : Option FieldType} {D : va_G} {T : Nat → ClassId} {o c0 u0 : Nat} {Q : State → Prop}
variable {G G0 : ax_G} {I : ax_I} {L : ax_L} {pc : Nat} {lv lv' : List (Nat × Value)} {st rest : List Value} {a : Nat} {mc ms : Nat} {Post : Option Value → ax_G → ax_I → ax_L → Prop}
theorem ay_dp {ls : Array Slot} {x : Nat × Value} {l : List (Nat × Value)} (h : lv_has ls nL (x :: l)) : lv_has ls nL l := ⟨h.1, h.2.1, fun q hq => h.2.2 q (List.mem_cons_of_mem _ hq)⟩
theorem ay_sw {ls : Array Slot} {x y : Nat × Value} {l : List (Nat × Value)} (h : lv_has ls nL (x :: y :: l)) : lv_has ls nL (y :: x :: l) := ⟨h.1, h.2.1, fun q hq => h.2.2 q (by
  rcases List.mem_cons.mp hq with h1 | h1
  · exact h1 ▸ List.mem_cons_of_mem _ List.mem_cons_self
  · rcases List.mem_cons.mp h1 with h2 | h2
    · exact h2 ▸ List.mem_cons_self
    · exact List.mem_cons_of_mem _ (List.mem_cons_of_mem _ h2))⟩
theorem ay_s1 (o : Nat) (lv : List (Nat × Value)) (i : Nat) (v : Value) (hi : ¬ 0 = i) : (i, ax_tr o v) :: ((0, Value.ref b0) :: ax_lv o lv).filter (fun q => !(q.1 == i) && !(q.1 + 1 == i && q.2.category == 2)) = (i, ax_tr o v) :: (0, Value.ref b0) :: (ax_lv o lv).filter (fun q => !(q.1 == i) && !(q.1 + 1 == i && q.2.category == 2)) := by
  rw [List.filter_cons_of_pos]
  simp [hi, Value.category]
theorem ay_put {ls : Array Slot} {i : Nat} {v : Value} (hl : ax_s1 lv i v = lv') (h : lv_has ls nL ((i, ax_tr o v) :: (0, Value.ref b0) :: (ax_lv o lv).filter (fun q => !(q.1 == i) && !(q.1 + 1 == i && q.2.category == 2)))) : lv_has ls nL ((0, Value.ref b0) :: ax_lv o lv') := by
  have h2 := ay_sw h
  rw [ax_lv_s1 o lv i v, hl] at h2
  exact h2
theorem y_iconst (C : ax_C p s m args meth c cc nL own nm ret D T o c0) {n : Int} {v : Int32} (hdg : decode cc pc = .ok (.iconst n, 1)) (hv : Int32.ofInt n = v) (k : ax_Y b0 p l e R s m args below meth c nL D T o c0 u0 Q G I L (pc + 1) lv (.int v :: st)) : ax_Y b0 p l e R s m args below meth c nL D T o c0 u0 Q G I L pc lv st :=
  fun H locs ls a1 a2 a3 a4 a5 => lv_iconst C.1 C.2.1 hdg hv (k H locs ls a1 a2 a3 a4 a5)
theorem y_bipush (C : ax_C p s m args meth c cc nL own nm ret D T o c0) {n : Int} {v : Int32} (hdg : decode cc pc = .ok (.bipush n, 2)) (hv : (Int8.ofInt n).toInt32 = v) (k : ax_Y b0 p l e R s m args below meth c nL D T o c0 u0 Q G I L (pc + 2) lv (.int v :: st)) : ax_Y b0 p l e R s m args below meth c nL D T o c0 u0 Q G I L pc lv st :=
  fun H locs ls a1 a2 a3 a4 a5 => lv_bipush C.1 C.2.1 hdg hv (k H locs ls a1 a2 a3 a4 a5)
theorem y_ldc2 (C : ax_C p s m args meth c cc nL own nm ret D T o c0) {index : Nat} {v : Int64} (hw : Cond.constantLong own index v ∈ lw_use) (hdg : decode cc pc = .ok (.ldc2_w index, 3)) (k : ax_Y b0 p l e R s m args below meth c nL D T o c0 u0 Q G I L (pc + 3) lv (.long v :: st)) : ax_Y b0 p l e R s m args below meth c nL D T o c0 u0 Q G I L pc lv st :=
  fun H locs ls a1 a2 a3 a4 a5 => lv_ldc2 C.1 C.2.1 C.2.2.2.1 (C.2.2.2.2.1 _ hw) hdg (k H locs ls a1 a2 a3 a4 a5)
theorem y_iload_n (C : ax_C p s m args meth c cc nL own nm ret D T o c0) {i : Fin 4} {x : Int32} (hdg : decode cc pc = .ok (.iload_n i, 1)) (hl : ax_lk lv i = some (.int x)) (k : ax_Y b0 p l e R s m args below meth c nL D T o c0 u0 Q G I L (pc + 1) lv (.int x :: st)) : ax_Y b0 p l e R s m args below meth c nL D T o c0 u0 Q G I L pc lv st :=
  fun H locs ls a1 a2 a3 a4 a5 => lv_iload_n C.1 C.2.1 hdg rfl (ax_lget (ay_dp a3) hl) (k H locs ls a1 a2 a3 a4 a5)
theorem y_aload_n (C : ax_C p s m args meth c cc nL own nm ret D T o c0) {i : Fin 4} {x : Nat} (hdg : decode cc pc = .ok (.aload_n i, 1)) (hl : ax_lk lv i = some (.ref x)) (k : ax_Y b0 p l e R s m args below meth c nL D T o c0 u0 Q G I L (pc + 1) lv (.ref x :: st)) : ax_Y b0 p l e R s m args below meth c nL D T o c0 u0 Q G I L pc lv st :=
  fun H locs ls a1 a2 a3 a4 a5 => lv_aload_n C.1 C.2.1 hdg rfl (ax_lget (ay_dp a3) hl) (k H locs ls a1 a2 a3 a4 a5)
theorem y_iadd (C : ax_C p s m args meth c cc nL own nm ret D T o c0) {x y : Int32} (hdg : decode cc pc = .ok (.iadd, 1))  (k : ax_Y b0 p l e R s m args below meth c nL D T o c0 u0 Q G I L (pc + 1) lv (.int (x + y) :: st)) : ax_Y b0 p l e R s m args below meth c nL D T o c0 u0 Q G I L pc lv (.int y :: .int x :: st) :=
  fun H locs ls a1 a2 a3 a4 a5 => lv_iadd C.1 C.2.1 hdg (k H locs ls a1 a2 a3 a4 a5)
theorem y_isub (C : ax_C p s m args meth c cc nL own nm ret D T o c0) {x y : Int32} (hdg : decode cc pc = .ok (.isub, 1))  (k : ax_Y b0 p l e R s m args below meth c nL D T o c0 u0 Q G I L (pc + 1) lv (.int (x - y) :: st)) : ax_Y b0 p l e R s m args below meth c nL D T o c0 u0 Q G I L pc lv (.int y :: .int x :: st) :=
  fun H locs ls a1 a2 a3 a4 a5 => lv_isub C.1 C.2.1 hdg (k H locs ls a1 a2 a3 a4 a5)
theorem y_iand (C : ax_C p s m args meth c cc nL own nm ret D T o c0) {x y : Int32} (hdg : decode cc pc = .ok (.iand, 1))  (k : ax_Y b0 p l e R s m args below meth c nL D T o c0 u0 Q G I L (pc + 1) lv (.int (x &&& y) :: st)) : ax_Y b0 p l e R s m args below meth c nL D T o c0 u0 Q G I L pc lv (.int y :: .int x :: st) :=
  fun H locs ls a1 a2 a3 a4 a5 => lv_iand C.1 C.2.1 hdg (k H locs ls a1 a2 a3 a4 a5)
theorem y_land (C : ax_C p s m args meth c cc nL own nm ret D T o c0) {x y : Int64} (hdg : decode cc pc = .ok (.land, 1))  (k : ax_Y b0 p l e R s m args below meth c nL D T o c0 u0 Q G I L (pc + 1) lv (.long (x &&& y) :: st)) : ax_Y b0 p l e R s m args below meth c nL D T o c0 u0 Q G I L pc lv (.long y :: .long x :: st) :=
  fun H locs ls a1 a2 a3 a4 a5 => lv_land C.1 C.2.1 hdg (k H locs ls a1 a2 a3 a4 a5)
theorem y_lor (C : ax_C p s m args meth c cc nL own nm ret D T o c0) {x y : Int64} (hdg : decode cc pc = .ok (.lor, 1))  (k : ax_Y b0 p l e R s m args below meth c nL D T o c0 u0 Q G I L (pc + 1) lv (.long (x ||| y) :: st)) : ax_Y b0 p l e R s m args below meth c nL D T o c0 u0 Q G I L pc lv (.long y :: .long x :: st) :=
  fun H locs ls a1 a2 a3 a4 a5 => lv_lor C.1 C.2.1 hdg (k H locs ls a1 a2 a3 a4 a5)
theorem y_lshl (C : ax_C p s m args meth c cc nL own nm ret D T o c0) {x : Int64} {y : Int32} (hdg : decode cc pc = .ok (.lshl, 1))  (k : ax_Y b0 p l e R s m args below meth c nL D T o c0 u0 Q G I L (pc + 1) lv (.long (x <<< (y.toInt64 &&& 63)) :: st)) : ax_Y b0 p l e R s m args below meth c nL D T o c0 u0 Q G I L pc lv (.int y :: .long x :: st) :=
  fun H locs ls a1 a2 a3 a4 a5 => lv_lshl C.1 C.2.1 hdg rfl (k H locs ls a1 a2 a3 a4 a5)
theorem y_i2l (C : ax_C p s m args meth c cc nL own nm ret D T o c0) {x : Int32} (hdg : decode cc pc = .ok (.i2l, 1))  (k : ax_Y b0 p l e R s m args below meth c nL D T o c0 u0 Q G I L (pc + 1) lv (.long x.toInt64 :: st)) : ax_Y b0 p l e R s m args below meth c nL D T o c0 u0 Q G I L pc lv (.int x :: st) :=
  fun H locs ls a1 a2 a3 a4 a5 => lv_i2l C.1 C.2.1 hdg rfl (k H locs ls a1 a2 a3 a4 a5)
theorem y_dup (C : ax_C p s m args meth c cc nL own nm ret D T o c0) {va : Value} (hdg : decode cc pc = .ok (.dup, 1)) (hva : va.category = 1) (k : ax_Y b0 p l e R s m args below meth c nL D T o c0 u0 Q G I L (pc + 1) lv (va :: va :: st)) : ax_Y b0 p l e R s m args below meth c nL D T o c0 u0 Q G I L pc lv (va :: st) :=
  fun H locs ls a1 a2 a3 a4 a5 => lv_dup C.1 C.2.1 hdg ((ax_tr_cat o va).trans hva) (k H locs ls a1 a2 a3 a4 a5)
theorem y_icmp_eq (C : ax_C p s m args meth c cc nL own nm ret D T o c0) {x y : Int32} {off : Int} {tgt : Nat} (hdg : decode cc pc = .ok (.if_icmp .eq off, 3)) (ht : (pc : Int) + off = (tgt : Int)) (kt : x = y → ax_Y b0 p l e R s m args below meth c nL D T o c0 u0 Q G I L tgt lv st) (kf : ¬ x = y → ax_Y b0 p l e R s m args below meth c nL D T o c0 u0 Q G I L (pc + 3) lv st) : ax_Y b0 p l e R s m args below meth c nL D T o c0 u0 Q G I L pc lv (.int y :: .int x :: st) :=
  fun H locs ls a1 a2 a3 a4 a5 => lv_icmp_eq C.1 C.2.1 hdg ht (fun h => kt h H locs ls a1 a2 a3 a4 a5) (fun h => kf h H locs ls a1 a2 a3 a4 a5)
theorem y_icmp_gt (C : ax_C p s m args meth c cc nL own nm ret D T o c0) {x y : Int32} {off : Int} {tgt : Nat} (hdg : decode cc pc = .ok (.if_icmp .gt off, 3)) (ht : (pc : Int) + off = (tgt : Int)) (kt : y < x → ax_Y b0 p l e R s m args below meth c nL D T o c0 u0 Q G I L tgt lv st) (kf : ¬ y < x → ax_Y b0 p l e R s m args below meth c nL D T o c0 u0 Q G I L (pc + 3) lv st) : ax_Y b0 p l e R s m args below meth c nL D T o c0 u0 Q G I L pc lv (.int y :: .int x :: st) :=
  fun H locs ls a1 a2 a3 a4 a5 => lv_icmp_gt C.1 C.2.1 hdg ht (fun h => kt h H locs ls a1 a2 a3 a4 a5) (fun h => kf h H locs ls a1 a2 a3 a4 a5)
theorem y_goto (C : ax_C p s m args meth c cc nL own nm ret D T o c0) {off : Int} {tgt : Nat} (hdg : decode cc pc = .ok (.goto off, 3)) (ht : (pc : Int) + off = (tgt : Int)) (k : ax_Y b0 p l e R s m args below meth c nL D T o c0 u0 Q G I L tgt lv st) : ax_Y b0 p l e R s m args below meth c nL D T o c0 u0 Q G I L pc lv st :=
  fun H locs ls a1 a2 a3 a4 a5 => lv_goto C.1 C.2.1 hdg ht (k H locs ls a1 a2 a3 a4 a5)
theorem y_tableOut (C : ax_C p s m args meth c cc nL own nm ret D T o c0) {dflt lo hi : Int} {offs : Array Int} {len : Nat} {x : Int32} {tgt : Nat} (hdg : decode cc pc = .ok (.tableswitch dflt lo hi offs, len)) (h : x.toInt < lo ∨ hi < x.toInt) (ht : (pc : Int) + dflt = (tgt : Int)) (k : ax_Y b0 p l e R s m args below meth c nL D T o c0 u0 Q G I L tgt lv st) : ax_Y b0 p l e R s m args below meth c nL D T o c0 u0 Q G I L pc lv (.int x :: st) :=
  fun H locs ls a1 a2 a3 a4 a5 => lv_tableOut C.1 C.2.1 hdg h ht (k H locs ls a1 a2 a3 a4 a5)
theorem y_tableIn (C : ax_C p s m args meth c cc nL own nm ret D T o c0) {dflt lo hi : Int} {offs : Array Int} {len : Nat} {x : Int32} {off : Int} {tgt : Nat} (hdg : decode cc pc = .ok (.tableswitch dflt lo hi offs, len)) (h1 : ¬ x.toInt < lo) (h2 : ¬ hi < x.toInt) (ho : offs[(x.toInt - lo).toNat]? = some off) (ht : (pc : Int) + off = (tgt : Int)) (k : ax_Y b0 p l e R s m args below meth c nL D T o c0 u0 Q G I L tgt lv st) : ax_Y b0 p l e R s m args below meth c nL D T o c0 u0 Q G I L pc lv (.int x :: st) :=
  fun H locs ls a1 a2 a3 a4 a5 => lv_tableIn C.1 C.2.1 hdg h1 h2 ho ht (k H locs ls a1 a2 a3 a4 a5)
theorem y_lcmp (C : ax_C p s m args meth c cc nL own nm ret D T o c0) {x y : Int64} (hdg : decode cc pc = .ok (.lcmp, 1)) (k : ax_Y b0 p l e R s m args below meth c nL D T o c0 u0 Q G I L (pc + 1) lv (.int (lg_cmp x y) :: st)) : ax_Y b0 p l e R s m args below meth c nL D T o c0 u0 Q G I L pc lv (.long y :: .long x :: st) :=
  fun H locs ls a1 a2 a3 a4 a5 => W.lcmp C.1 C.2.1 hdg (k H locs ls a1 a2 a3 a4 a5)
theorem y_if_eq (C : ax_C p s m args meth c cc nL own nm ret D T o c0) {x : Int32} {off : Int} {tgt : Nat} (hdg : decode cc pc = .ok (.ifCond .eq off, 3)) (ht : (pc : Int) + off = (tgt : Int)) (kt : x = 0 → ax_Y b0 p l e R s m args below meth c nL D T o c0 u0 Q G I L tgt lv st) (kf : ¬ x = 0 → ax_Y b0 p l e R s m args below meth c nL D T o c0 u0 Q G I L (pc + 3) lv st) : ax_Y b0 p l e R s m args below meth c nL D T o c0 u0 Q G I L pc lv (.int x :: st) :=
  fun H locs ls a1 a2 a3 a4 a5 => lv_if_eq C.1 C.2.1 hdg ht (fun h => kt h H locs ls a1 a2 a3 a4 a5) (fun h => kf h H locs ls a1 a2 a3 a4 a5)
theorem y_lc_eq (C : ax_C p s m args meth c cc nL own nm ret D T o c0) {x y : Int64} {off : Int} {tgt : Nat} (hd1 : decode cc pc = .ok (.lcmp, 1)) (hd2 : decode cc (pc + 1) = .ok (.ifCond .eq off, 3)) (ht : ((pc + 1 : Nat) : Int) + off = (tgt : Int)) (kt : x = y → ax_Y b0 p l e R s m args below meth c nL D T o c0 u0 Q G I L tgt lv st) (kf : ¬ x = y → ax_Y b0 p l e R s m args below meth c nL D T o c0 u0 Q G I L (pc + 4) lv st) : ax_Y b0 p l e R s m args below meth c nL D T o c0 u0 Q G I L pc lv (.long y :: .long x :: st) :=
  y_lcmp C hd1 (y_if_eq C hd2 ht (fun h => kt ((lg_cmp_eq x y).mp h)) (fun h => kf (fun q => h ((lg_cmp_eq x y).mpr q))))
theorem y_lvs (h : lv = lv') (k : ax_Y b0 p l e R s m args below meth c nL D T o c0 u0 Q G I L pc lv' st) : ax_Y b0 p l e R s m args below meth c nL D T o c0 u0 Q G I L pc lv st := by rw [h]; exact k
theorem ay_back (C : ax_C p s m args meth c cc nL own nm ret D T o c0) {mc' ms' : Nat} {Post' : Option Value → ax_G → ax_I → ax_L → Prop} {A : Array Value} {H : Heap} {locs : List Loc} {ls : Array Slot} {st0 : List Value}
    (a1 : c0 ≤ ax_top G) (a2 : u0 ≤ ax_used G) (a3 : lv_has ls nL ((0, Value.ref b0) :: ax_lv o lv)) (a5 : va_S (fun q => o ≤ q) s.heap H locs) {S : State} (hS : S.heap = H) (X : Stand p l e R s m args below meth c S locs (ax_top G - c0) (ax_used G - u0))
    (hr : va_Run p l e R s m args below meth c H locs (ax_top G - c0) (ax_used G - u0) mc' ms' (F0 m pc ls st0) (rest.map (ax_tr o)) (ax_Q D T o G mc' ms' Post' A) (fun q => o ≤ q))
    (kk : ∀ (v : Option Value) (G' : ax_G) (I' : ax_I) (L' : ax_L), Post' v G' I' L' → ax_Y b0 p l e R s m args below meth c nL D T o c0 u0 Q G' I' L' (pc + 3) lv (v.toList ++ rest)) : ∃ t, Steps p.tables e below (S.setTop (F0 m pc ls st0)) t ∧ Q t := by
  obtain ⟨v, st₀, t, T', Lc, h0, X', hL, e1, e2, ⟨⟨v', G', I', L', hv, hp, hP1, ht, hu⟩, hz, hF⟩, go⟩ := hr S hS X
  cases hv
  rw [h0] at hz hF
  have hlocs : va_S (fun q => o ≤ q) s.heap T'.heap (locs ++ Lc) := by
    refine ⟨Nat.le_trans a5.1 (by rw [e1]; exact hz), fun q h1 h2 => ?_, fun q hq => ?_⟩
    · rw [e1, hF q (Nat.lt_of_lt_of_le h1 a5.1) h2]
      exact a5.2.1 q h1 h2
    · rcases List.mem_append.mp hq with h | h
      · exact a5.2.2 q h
      · exact hL q h
  have k := kk v' G' I' L' hp T'.heap (locs ++ Lc) ls (by omega) (by omega) a3 (by rw [e1]; exact hP1) hlocs
  rw [show ax_top G' - c0 = ax_top G - c0 + mc' by omega, show ax_used G' - u0 = ax_used G - u0 + ms' by omega] at k
  obtain ⟨t2, s1, s2⟩ := k T' rfl X'
  refine ⟨t2, go t2 ?_, s2⟩
  rw [ax_toList]
  exact s1
theorem y_callV (C : ax_C p s m args meth c cc nL own nm ret D T o c0) {index ci : Nat} {y : MethodName} {yb : ByteArray} {yn d' mc' ms' : Nat} {yret : Option FieldType} {As : List Value} {st0 : List Value} {q : vw_C} {Post' : Option Value → ax_G → ax_I → ax_L → Prop}
    (hcon : ax_Con l D T o y yb yn yret d' mc' ms' (.ref a :: As) G I L Post') (hm : ax_mv own index y yb yn yret As.length) (hq : vwCl[ci]? = some q) (hqc : q.1 = y.cls) (ha : a < ax_top G) (hK : ax_K G a = 8 + ci)
    (hR : d' + 1 ≤ R.frames ∧ 40 * (d' + 1) ≤ R.locals) (hmc : ax_top G + mc' ≤ c0 + R.cells ∧ ax_used G + ms' ≤ u0 + R.slots) (hst : st0 = As.reverse ++ .ref a :: rest) (hrest : (rest.map fun v => v.category).sum ≤ 8) (hdg : decode cc pc = .ok (.invokevirtual index, 3))
    (kk : ∀ (v : Option Value) (G' : ax_G) (I' : ax_I) (L' : ax_L), Post' v G' I' L' → ax_Y b0 p l e R s m args below meth c nL D T o c0 u0 Q G' I' L' (pc + 3) lv (v.toList ++ rest)) : ax_Y b0 p l e R s m args below meth c nL D T o c0 u0 Q G I L pc lv st0 := by
  intro H locs ls a1 a2 a3 a4 a5 S hS X
  have hsz := ax_size C a1 rfl a4 a5 hS X
  obtain ⟨⟨m1, m2, m3, m4, m5⟩, m6, m7⟩ := hm
  have hts := C.2.2.2.2.1
  have hKK := C.2.2.2.2.2.1
  have cb := callB_of (R := R) (s := s) (args := args) (own := own) (index := index) (y := y) (bytes := yb) (maxL := yn) (ret := yret) (rm := ax_rm d' mc' ms') (mc := mc') (ms := ms') As.length hts (ax_goodIn m3) rfl rfl rfl (hts _ m2) (hts _ m1) m4 ⟨hR.1, by show 8 + (yn + 11) + 40 * d' ≤ R.locals; omega⟩
  have hr := va_runV (p := p) (l := l) (e := e) (below := below) (meth := meth) (H := H) (locs := locs) (cells := ax_top G - c0) (slots := ax_used G - u0) (C := y.cls) (b := o + a) (As := As.map (ax_tr o)) (rest := rest.map (ax_tr o)) (g := F0 m pc ls (st0.map (ax_tr o))) ⟨C.1, C.2.1, C.2.2.1, C.2.2.2.1, hts⟩ hcon ⟨cb, hts _ m6, hts _ m7⟩
    ⟨ax_blind D T o G I L _, by rw [← hqc]; exact va_recv hKK a4 (q0 := a) hq (ax_at_o ha hK), fun U hU hW => ⟨by rw [List.map_cons]; rfl, by rw [hU]; exact hsz, by rw [hU]; exact a4, va_K.moved hW.alike hKK, C.2.2.2.2.2.2.2.2.2.2.warm hW⟩⟩
    rfl (by simp) a3.1 (by rw [hst]; simp; rfl) (lv_room (by rw [ax_cats]; exact hrest)) hdg ⟨by omega, by omega⟩
  exact ay_back C a1 a2 a3 a5 hS X hr kk
theorem y_callI (C : ax_C p s m args meth c cc nL own nm ret D T o c0) {index : Nat} {y : MethodName} {yb : ByteArray} {yn d' mc' ms' : Nat} {As : List Value} {st0 : List Value} {Post' : Option Value → ax_G → ax_I → ax_L → Prop}
    (hcon : ax_Con l D T o y yb yn none d' mc' ms' (.ref a :: As) G I L Post') (hm : ax_mi own index y yb yn As.length)
    (hR : d' + 1 ≤ R.frames ∧ 40 * (d' + 1) ≤ R.locals) (hmc : ax_top G + mc' ≤ c0 + R.cells ∧ ax_used G + ms' ≤ u0 + R.slots) (hst : st0 = As.reverse ++ .ref a :: rest) (hrest : (rest.map fun v => v.category).sum ≤ 8) (hdg : decode cc pc = .ok (.invokespecial index, 3))
    (kk : ∀ (v : Option Value) (G' : ax_G) (I' : ax_I) (L' : ax_L), Post' v G' I' L' → ax_Y b0 p l e R s m args below meth c nL D T o c0 u0 Q G' I' L' (pc + 3) lv (v.toList ++ rest)) : ax_Y b0 p l e R s m args below meth c nL D T o c0 u0 Q G I L pc lv st0 := by
  intro H locs ls a1 a2 a3 a4 a5 S hS X
  have hsz := ax_size C a1 rfl a4 a5 hS X
  obtain ⟨⟨m1, m2, m3, m4, m5⟩, m6, m7⟩ := hm
  have hts := C.2.2.2.2.1
  have hKK := C.2.2.2.2.2.1
  have cb := callB_of (R := R) (s := s) (args := args) (own := own) (index := index) (y := y) (bytes := yb) (maxL := yn) (ret := none) (rm := ax_rm d' mc' ms') (mc := mc') (ms := ms') As.length hts (ax_goodIn m3) rfl rfl rfl (hts _ m2) (hts _ m1) m4 ⟨hR.1, by show 8 + (yn + 11) + 40 * d' ≤ R.locals; omega⟩
  have hr := va_runI (p := p) (l := l) (e := e) (below := below) (meth := meth) (H := H) (locs := locs) (cells := ax_top G - c0) (slots := ax_used G - u0) (b := o + a) (As := As.map (ax_tr o)) (rest := rest.map (ax_tr o)) (g := F0 m pc ls (st0.map (ax_tr o))) ⟨C.1, C.2.1, C.2.2.1, C.2.2.2.1, hts⟩ hcon ⟨cb, m6, hts _ m7⟩
    ⟨ax_blind D T o G I L _, fun U hU hW => ⟨by rw [List.map_cons]; rfl, by rw [hU]; exact hsz, by rw [hU]; exact a4, va_K.moved hW.alike hKK, C.2.2.2.2.2.2.2.2.2.2.warm hW⟩⟩
    rfl (by simp) a3.1 (by rw [hst]; simp; rfl) (lv_room (by rw [ax_cats]; exact hrest)) hdg ⟨by omega, by omega⟩
  exact ay_back C a1 a2 a3 a5 hS X hr kk
theorem y_istore_n (C : ax_C p s m args meth c cc nL own nm ret D T o c0) {i : Fin 4} {x : Int32} {lv' : List (Nat × Value)} (hdg : decode cc pc = .ok (.istore_n i, 1)) (hn : (i : Nat) < nL) (hi0 : ¬ 0 = (i : Nat)) (hl : ax_s1 lv i (.int x) = lv') (k : ax_Y b0 p l e R s m args below meth c nL D T o c0 u0 Q G I L (pc + 1) lv' st) : ax_Y b0 p l e R s m args below meth c nL D T o c0 u0 Q G I L pc lv (.int x :: st) :=
  fun H locs ls a1 a2 a3 a4 a5 => lv_istore_n C.1 C.2.1 hdg rfl a3 hn (ay_s1 o lv i (.int x) hi0) (fun ls' h => k H locs ls' a1 a2 (ay_put hl h) a4 a5)
theorem y_astore_n (C : ax_C p s m args meth c cc nL own nm ret D T o c0) {i : Fin 4} {x : Nat} {lv' : List (Nat × Value)} (hdg : decode cc pc = .ok (.astore_n i, 1)) (hn : (i : Nat) < nL) (hi0 : ¬ 0 = (i : Nat)) (hl : ax_s1 lv i (.ref x) = lv') (k : ax_Y b0 p l e R s m args below meth c nL D T o c0 u0 Q G I L (pc + 1) lv' st) : ax_Y b0 p l e R s m args below meth c nL D T o c0 u0 Q G I L pc lv (.ref x :: st) :=
  fun H locs ls a1 a2 a3 a4 a5 => lv_astore_n C.1 C.2.1 hdg rfl a3 hn (ay_s1 o lv i (.ref x) hi0) (fun ls' h => k H locs ls' a1 a2 (ay_put hl h) a4 a5)
theorem y_iinc (C : ax_C p s m args meth c cc nL own nm ret D T o c0) {i : Nat} {n : Int} {x v : Int32} {lv' : List (Nat × Value)} (hdg : decode cc pc = .ok (.iinc i n, 3)) (hk : ax_lk lv i = some (.int x)) (hv : x + Int32.ofInt n = v) (hn : i < nL) (hi0 : ¬ 0 = i) (hl : ax_s1 lv i (.int v) = lv') (k : ax_Y b0 p l e R s m args below meth c nL D T o c0 u0 Q G I L (pc + 3) lv' st) : ax_Y b0 p l e R s m args below meth c nL D T o c0 u0 Q G I L pc lv st := by
  intro H locs ls a1 a2 a3 a4 a5
  obtain ⟨q, hq⟩ := List.getElem?_of_mem (List.mem_cons_of_mem _ (List.mem_map.mpr ⟨(i, .int x), ax_lk_mem hk, rfl⟩) : (i, ax_tr o (.int x)) ∈ (0, Value.ref b0) :: ax_lv o lv)
  exact lv_iinc C.1 C.2.1 hdg a3 (k := q) hq hv hn (ay_s1 o lv i (.int v) hi0) (fun ls' h => k H locs ls' a1 a2 (ay_put hl h) a4 a5)
/-- a script's int -/
theorem y_sld (C : ax_C p s m args meth c cc nL own nm ret D T o c0) {Ls i k : Nat} {xs : Nat → Int32} {n : Int} (hX : va_X b0 Ls xs s s.heap) (hbl : b0 < s.heap.size) (hbo : b0 < o) (h0 : decode cc pc = .ok (.aload_n 0, 1)) (h1 : decode cc (pc + 1) = .ok (.iload_n 3, 1)) (h2 : decode cc (pc + 2) = .ok (.iconst n, 1)) (h3 : decode cc (pc + 3) = .ok (.iadd, 1)) (h4 : decode cc (pc + 4) = .ok (.iaload, 1))
    (hl : ax_lk lv 3 = some (.int (nI i))) (hn : Int32.ofInt n = nI k) (hik : i + k < Ls) (hL : Ls < 2 ^ 31) (kk : ax_Y b0 p l e R s m args below meth c nL D T o c0 u0 Q G I L (pc + 5) lv (.int (xs (i + k)) :: st)) : ax_Y b0 p l e R s m args below meth c nL D T o c0 u0 Q G I L pc lv st := by
  intro H locs ls a1 a2 a3 a4 a5
  refine lv_aload_n C.1 C.2.1 h0 rfl (a3.2.2 (0, Value.ref b0) List.mem_cons_self) ?_
  refine lv_iload_n C.1 C.2.1 h1 rfl (ax_lget (ay_dp a3) hl) ?_
  refine lv_iconst C.1 C.2.1 h2 hn ?_
  refine lv_iadd C.1 C.2.1 h3 ?_
  rw [nI_add]
  refine va_sld C.1 C.2.1 hX hbl (by show ¬ o ≤ b0; omega) a5 (vp_in_nI hik hL) h4 ?_
  rw [pk_cl (x := nI (i + k)) (i + k) rfl (Nat.lt_trans hik hL)]
  exact kk H locs ls a1 a2 a3 a4 a5
theorem y_sldb (C : ax_C p s m args meth c cc nL own nm ret D T o c0) {Ls i k : Nat} {xs : Nat → Int32} {n : Int} (hX : va_X b0 Ls xs s s.heap) (hbl : b0 < s.heap.size) (hbo : b0 < o) (h0 : decode cc pc = .ok (.aload_n 0, 1)) (h1 : decode cc (pc + 1) = .ok (.iload_n 3, 1)) (h2 : decode cc (pc + 2) = .ok (.bipush n, 2)) (h3 : decode cc (pc + 4) = .ok (.iadd, 1)) (h4 : decode cc (pc + 5) = .ok (.iaload, 1))
    (hl : ax_lk lv 3 = some (.int (nI i))) (hn : (Int8.ofInt n).toInt32 = nI k) (hik : i + k < Ls) (hL : Ls < 2 ^ 31) (kk : ax_Y b0 p l e R s m args below meth c nL D T o c0 u0 Q G I L (pc + 6) lv (.int (xs (i + k)) :: st)) : ax_Y b0 p l e R s m args below meth c nL D T o c0 u0 Q G I L pc lv st := by
  intro H locs ls a1 a2 a3 a4 a5
  refine lv_aload_n C.1 C.2.1 h0 rfl (a3.2.2 (0, Value.ref b0) List.mem_cons_self) ?_
  refine lv_iload_n C.1 C.2.1 h1 rfl (ax_lget (ay_dp a3) hl) ?_
  refine lv_bipush C.1 C.2.1 h2 hn ?_
  refine lv_iadd C.1 C.2.1 h3 ?_
  rw [nI_add]
  refine va_sld C.1 C.2.1 hX hbl (by show ¬ o ≤ b0; omega) a5 (vp_in_nI hik hL) h4 ?_
  rw [pk_cl (x := nI (i + k)) (i + k) rfl (Nat.lt_trans hik hL)]
  exact kk H locs ls a1 a2 a3 a4 a5
theorem y_sld0 (C : ax_C p s m args meth c cc nL own nm ret D T o c0) {Ls i : Nat} {xs : Nat → Int32} (hX : va_X b0 Ls xs s s.heap) (hbl : b0 < s.heap.size) (hbo : b0 < o) (h0 : decode cc pc = .ok (.aload_n 0, 1)) (h1 : decode cc (pc + 1) = .ok (.iload_n 3, 1)) (h4 : decode cc (pc + 2) = .ok (.iaload, 1))
    (hl : ax_lk lv 3 = some (.int (nI i))) (hik : i < Ls) (hL : Ls < 2 ^ 31) (kk : ax_Y b0 p l e R s m args below meth c nL D T o c0 u0 Q G I L (pc + 3) lv (.int (xs i) :: st)) : ax_Y b0 p l e R s m args below meth c nL D T o c0 u0 Q G I L pc lv st := by
  intro H locs ls a1 a2 a3 a4 a5
  refine lv_aload_n C.1 C.2.1 h0 rfl (a3.2.2 (0, Value.ref b0) List.mem_cons_self) ?_
  refine lv_iload_n C.1 C.2.1 h1 rfl (ax_lget (ay_dp a3) hl) ?_
  refine va_sld C.1 C.2.1 hX hbl (by show ¬ o ≤ b0; omega) a5 (vp_in_nI hik hL) h4 ?_
  rw [pk_cl (x := nI i) i rfl (Nat.lt_trans hik hL)]
  exact kk H locs ls a1 a2 a3 a4 a5
/-- the script's length -/
theorem y_slen (C : ax_C p s m args meth c cc nL own nm ret D T o c0) {Ls : Nat} {xs : Nat → Int32} (hX : va_X b0 Ls xs s s.heap) (hbl : b0 < s.heap.size) (hbo : b0 < o) (h0 : decode cc pc = .ok (.aload_n 0, 1)) (h1 : decode cc (pc + 1) = .ok (.arraylength, 1)) (kk : ax_Y b0 p l e R s m args below meth c nL D T o c0 u0 Q G I L (pc + 2) lv (.int (nI Ls) :: st)) : ax_Y b0 p l e R s m args below meth c nL D T o c0 u0 Q G I L pc lv st := by
  intro H locs ls a1 a2 a3 a4 a5
  refine lv_aload_n C.1 C.2.1 h0 rfl (a3.2.2 (0, Value.ref b0) List.mem_cons_self) ?_
  exact va_slen C.1 C.2.1 hX hbl (by show ¬ o ≤ b0; omega) a5 h1 (kk H locs ls a1 a2 a3 a4 a5)
end AYP

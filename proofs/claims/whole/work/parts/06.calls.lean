/-! ===== a method's contract over the memory, how it is entered, left, called ===== -/
def ax_rm (d mc ms : Nat) : Room := { frames := d, cells := mc, slots := ms, locals := 40 * d }
def ax_Q (D : va_G) (T : Nat → ClassId) (o : Nat) (G : ax_G) (mc ms : Nat) (Post : Option Value → ax_G → ax_I → ax_L → Prop) : Array Value → State → Outcome → State → Prop := fun _ st oc t =>
  (∃ (v : Option Value) (G' : ax_G) (I' : ax_I) (L' : ax_L), oc = .returned (v.map (ax_tr o)) ∧ Post v G' I' L' ∧ ax_P D T o G' I' L' t.heap ∧ ax_top G' = ax_top G + mc ∧ ax_used G' = ax_used G + ms) ∧ va_F (fun q => o ≤ q) st t
def ax_Pc (D : va_G) (T : Nat → ClassId) (o : Nat) (G : ax_G) (I : ax_I) (L : ax_L) (As : List Value) : Array Value → State → Prop :=
  va_Pc (As.map (ax_tr o)) (fun U => U.heap.size = o + ax_top G ∧ ax_P D T o G I L U.heap ∧ va_K D vwCl (ax_tys T) U ∧ ax_NS U)
/-- method y, called with As on the memory G, I, L, at most d frames deep, returns, and its answer and the memory then are as Post says; it makes mc cells of ms slots -/
def ax_Con (l : Launch) (D : va_G) (T : Nat → ClassId) (o : Nat) (y : MethodName) (b : ByteArray) (n : Nat) (ret : Option FieldType) (d mc ms : Nat) (As : List Value) (G : ax_G) (I : ax_I) (L : ax_L) (Post : Option Value → ax_G → ax_I → ax_L → Prop) : Prop :=
  Met l y [Cond.code y b n ret] (ax_rm d mc ms) (ax_Pc D T o G I L As) (ax_Q D T o G mc ms Post) mc ms (fun q => o ≤ q)
theorem ax_sl_len (o : Nat) (vs : List Value) : (lg_sl (vs.map (ax_tr o))).length = (lg_sl vs).length := by
  induction vs with
  | nil => rfl
  | cons v vs ih =>
    have h : ∀ (x : Value) (r : List Value), (lg_sl (x :: r)).length = (if x.category = 2 then 2 else 1) + (lg_sl r).length := by
      intro x r
      unfold lg_sl
      rw [List.flatMap_cons, List.length_append]
      by_cases hc : x.category = 2
      · rw [if_pos hc, if_pos hc]; rfl
      · rw [if_neg hc, if_neg hc]; rfl
    rw [List.map_cons, h, h, ax_tr_cat, ih]
theorem ax_goodIn {y : MethodName} {b : ByteArray} {n : Nat} {ret : Option FieldType} (h : Cond.code y b n ret ∈ lw_use) : GoodIn lw_use [Cond.code y b n ret] := by
  intro w hw
  rw [List.mem_singleton.mp hw]
  exact ⟨h, Or.inl rfl⟩
/-- a contract by the walk of the body; also of a class of the JDK's, whose method is no native one -/
theorem ax_ofW {l : Launch} {y : MethodName} {ws ws' : List Cond} {rm : Room} {Pc : Array Value → State → Prop} {Qc : Array Value → State → Outcome → State → Prop} {mc ms : Nat} {free : Addr → Prop} {cc : ByteArray} {maxL : Nat} {ret : Option FieldType}
    (hy : plainFor y = true) (hw : ws = Cond.code y cc maxL ret :: ws')
    (body : ∀ p e s m args below meth c s₁, BodyLoose p l y (headSpec ws rm) cc maxL ret e s m args below meth c s₁ → c.maxLocals = maxL → Pc args s →
      W p l e (headSpec ws rm).room s m args below meth c s.heap [] 0 0 (MQ below Qc args s mc ms free) (entryFrame m args maxL)) : Met l y ws rm Pc Qc mc ms free := by
  refine MetFree.of_bodySF (code := cc) (maxLocals := maxL) (ret := ret) hy ?_ ?_
  · intro args s m h hn
    obtain ⟨meth, c, h1, h2, h3, h4, h5, h6, -, -⟩ := Cond.code_spec hn (atoms_spec (ws := ws) h _ (by rw [hw]; exact List.mem_cons_self))
    exact ⟨meth, c, h1, h2, h3, h4, h5, h6⟩
  · intro p e s m args below meth c s₁ B hml hP _
    have hh0 : s₁.heap = s.heap := by rw [B.state]; rfl
    obtain ⟨t, a1, o, b1, b2, b3⟩ := body p e s m args below meth c s₁ B hml hP s₁ hh0 (Stand.of_body B)
    exact ⟨t, o, a1, b1, b2, ⟨b3.1, b3.2⟩⟩
theorem ax_enter {l : Launch} {D : va_G} {T : Nat → ClassId} {o : Nat} {y : MethodName} {b : ByteArray} {n : Nat} {ret : Option FieldType} {d mc ms : Nat} {As : List Value} {G : ax_G} {I : ax_I} {L : ax_L} {Post : Option Value → ax_G → ax_I → ax_L → Prop}
    (hpl : plainFor y = true) (hlen : (lg_sl As).length ≤ n)
    (body : ∀ (p : Program) (e : Env) (s : State) (m : MethodId) (args : Array Value) (below : List Frame) (meth : Method) (c : Code), ax_C p s m args meth c b n y.cls y.name ret D T o (ax_top G) → args = (As.map (ax_tr o)).toArray →
      ax_X p l e (ax_rm d mc ms) s m args below meth c n D T o (ax_top G) (ax_used G) (MQ below (ax_Q D T o G mc ms Post) args s mc ms (fun q => o ≤ q)) G I L 0 (lv_args 0 As) []) : ax_Con l D T o y b n ret d mc ms As G I L Post := by
  refine ax_ofW (cc := b) (maxL := n) (ret := ret) hpl rfl ?_
  intro p e s m args below meth c s₁ B hml hv
  obtain ⟨rfl, hsz, hP, hK, hN⟩ := hv
  have hown : s.vm.findClass y.cls = some m.cls := findClass_of_methodNamed B.named
  have hC : ax_C p s m (As.map (ax_tr o)).toArray meth c b n y.cls y.name ret D T o (ax_top G) := ⟨B.exec, B.bytes, hml, hown, hN.args _, hK, B.notSynchronized, B.returns, (name_of_methodNamed B.named B.method).1, hsz, hN⟩
  have hl := lv_entry (As.map (ax_tr o)) (n := n) (by rw [ax_sl_len]; exact hlen)
  rw [ax_lv_args] at hl
  have h := body p e s m _ below meth c hC rfl s.heap [] _ (Nat.le_refl _) (Nat.le_refl _) hl hP va_S.rf
  rw [Nat.sub_self, Nat.sub_self] at h
  rw [lg_entry_eq]
  exact h
/-- what the tables say of a call: class own's pool entry index is method y of k arguments -/
def ax_mb (own : String) (index : Nat) (y : MethodName) (b : ByteArray) (n : Nat) (ret : Option FieldType) (k : Nat) : Prop :=
  Cond.methodLink own index y ∈ lw_use ∧ Cond.initialized y.cls ∈ lw_use ∧ Cond.code y b n ret ∈ lw_use ∧ (y.cls ≠ "java/lang/invoke/MethodHandle" ∧ y.cls ≠ "java/lang/invoke/VarHandle" ∧ (parseMethodDescriptor y.desc).map (fun d => d.parameters.length) = some k) ∧ n ≤ 21
def ax_mv (own : String) (index : Nat) (y : MethodName) (b : ByteArray) (n : Nat) (ret : Option FieldType) (k : Nat) : Prop := ax_mb own index y b n ret k ∧ Cond.instanceMethod y ∈ lw_use ∧ Cond.selects y.cls y y ∈ lw_use
def ax_ms (own : String) (index : Nat) (y : MethodName) (b : ByteArray) (n : Nat) (ret : Option FieldType) (k : Nat) : Prop := ax_mb own index y b n ret k ∧ Cond.static y ∈ lw_use
def ax_mi (own : String) (index : Nat) (y : MethodName) (b : ByteArray) (n : Nat) (k : Nat) : Prop := ax_mb own index y b n none k ∧ y.name = "<init>" ∧ Cond.instanceMethod y ∈ lw_use
def ax_mn (own host : String) (index : Nat) (y : MethodName) (b : ByteArray) (n : Nat) (ret : Option FieldType) (k : Nat) : Prop :=
  Cond.methodLinkNest own index y host ∈ lw_use ∧ Cond.initialized y.cls ∈ lw_use ∧ Cond.code y b n ret ∈ lw_use ∧ (y.cls ≠ "java/lang/invoke/MethodHandle" ∧ y.cls ≠ "java/lang/invoke/VarHandle" ∧ (parseMethodDescriptor y.desc).map (fun d => d.parameters.length) = some k) ∧ n ≤ 21 ∧ Cond.static y ∈ lw_use
theorem ax_blind (D : va_G) (T : Nat → ClassId) (o : Nat) (G : ax_G) (I : ax_I) (L : ax_L) (As : List Value) : FrameBlind (ax_Pc D T o G I L As) := by
  intro a U g mk q
  obtain ⟨q0, q1, qP, qK, qN⟩ := q
  exact ⟨q0, q1, qP, va_K.moved (u := U) (U := U.calling g mk a) (Vm.Alike.refl U.vm) qK, qN.vm rfl⟩
section AXQ
variable {p : Program} {l : Launch} {e : Env} {R : Room} {s : State} {m : MethodId} {args : Array Value} {below : List Frame} {meth : Method} {c : Code}
variable {cc : ByteArray} {nL : Nat} {own nm : String} {ret : Option FieldType} {D : va_G} {T : Nat → ClassId} {o c0 u0 : Nat} {Q : State → Prop}
variable {G G0 : ax_G} {I : ax_I} {L : ax_L} {pc : Nat} {lv : List (Nat × Value)} {st rest : List Value} {a : Nat} {mc ms : Nat} {Post : Option Value → ax_G → ax_I → ax_L → Prop}
/-- the heap's size is told by how many cells there are -/
theorem ax_size (C : ax_C p s m args meth c cc nL own nm ret D T o c0) {H : Heap} {locs : List Loc} {cells slots : Nat} (a1 : c0 ≤ ax_top G) (hc : cells = ax_top G - c0) (a4 : ax_P D T o G I L H) (a5 : va_S (fun q => o ≤ q) s.heap H locs) {S : State} (hS : S.heap = H) (X : Stand p l e R s m args below meth c S locs cells slots) : H.size = o + ax_top G := by
  have h1 : S.heap.size ≤ s.heap.size + cells := X.heapSize
  rw [hS] at h1
  have h2 : s.heap.size = o + c0 := C.2.2.2.2.2.2.2.2.2.1
  have h3 := a5.1
  rcases Nat.eq_or_lt_of_le a1 with h | h
  · omega
  · have h4 := (a4 (ax_top G - 1) _ (ax_ws_at (by omega))).lt
    simp only at h4
    omega
theorem ax_toList (v : Option Value) (rest : List Value) (o : Nat) : (v.map (ax_tr o)).toList ++ rest.map (ax_tr o) = (v.toList ++ rest).map (ax_tr o) := by cases v <;> simp
theorem ax_cats (rest : List Value) (o : Nat) : ((rest.map (ax_tr o)).map fun v => v.category) = rest.map fun v => v.category := by
  rw [List.map_map]
  apply List.map_congr_left
  intro v _
  exact ax_tr_cat o v
/-- behind a call -/
theorem ax_back (C : ax_C p s m args meth c cc nL own nm ret D T o c0) {mc' ms' : Nat} {Post' : Option Value → ax_G → ax_I → ax_L → Prop} {A : Array Value} {H : Heap} {locs : List Loc} {ls : Array Slot} {st0 : List Value}
    (a1 : c0 ≤ ax_top G) (a2 : u0 ≤ ax_used G) (a3 : lv_has ls nL (ax_lv o lv)) (a5 : va_S (fun q => o ≤ q) s.heap H locs) {S : State} (hS : S.heap = H) (X : Stand p l e R s m args below meth c S locs (ax_top G - c0) (ax_used G - u0))
    (hr : va_Run p l e R s m args below meth c H locs (ax_top G - c0) (ax_used G - u0) mc' ms' (F0 m pc ls st0) (rest.map (ax_tr o)) (ax_Q D T o G mc' ms' Post' A) (fun q => o ≤ q))
    (kk : ∀ (v : Option Value) (G' : ax_G) (I' : ax_I) (L' : ax_L), Post' v G' I' L' → ax_X p l e R s m args below meth c nL D T o c0 u0 Q G' I' L' (pc + 3) lv (v.toList ++ rest)) : ∃ t, Steps p.tables e below (S.setTop (F0 m pc ls st0)) t ∧ Q t := by
  obtain ⟨v, st₀, t, T', Lc, h0, X', hL, e1, e2, ⟨⟨v', G', I', L', hv, hp, hP1, ht, hu⟩, hz, hF⟩, go⟩ := hr S hS X
  cases hv
  rw [h0] at hz hF
  have hlocs : va_S (fun q => o ≤ q) s.heap T'.heap (locs ++ Lc) := by
    refine ⟨Nat.le_trans a5.1 (by rw [e1]; exact hz), fun q h1 h2 => ?_, fun q hq => ?_⟩
    · rw [e1, hF q (Nat.lt_of_lt_of_le h1 a5.1) h2]
      exact a5.2.1 q h1 h2
    · rcases List.mem_append.mp hq with h | h
      · exact a5.2.2 q h
      · exact hL q h
  have k := kk v' G' I' L' hp T'.heap (locs ++ Lc) ls (by omega) (by omega) a3 (by rw [e1]; exact hP1) hlocs
  rw [show ax_top G' - c0 = ax_top G - c0 + mc' by omega, show ax_used G' - u0 = ax_used G - u0 + ms' by omega] at k
  obtain ⟨t2, s1, s2⟩ := k T' rfl X'
  refine ⟨t2, go t2 ?_, s2⟩
  rw [ax_toList]
  exact s1
theorem x_callV (C : ax_C p s m args meth c cc nL own nm ret D T o c0) {index ci : Nat} {y : MethodName} {yb : ByteArray} {yn d' mc' ms' : Nat} {yret : Option FieldType} {As : List Value} {st0 : List Value} {q : vw_C} {Post' : Option Value → ax_G → ax_I → ax_L → Prop}
    (hcon : ax_Con l D T o y yb yn yret d' mc' ms' (.ref a :: As) G I L Post') (hm : ax_mv own index y yb yn yret As.length) (hq : vwCl[ci]? = some q) (hqc : q.1 = y.cls) (ha : a < ax_top G) (hK : ax_K G a = 8 + ci)
    (hR : d' + 1 ≤ R.frames ∧ 40 * (d' + 1) ≤ R.locals) (hmc : ax_top G + mc' ≤ c0 + R.cells ∧ ax_used G + ms' ≤ u0 + R.slots) (hst : st0 = As.reverse ++ .ref a :: rest) (hrest : (rest.map fun v => v.category).sum ≤ 8) (hdg : decode cc pc = .ok (.invokevirtual index, 3))
    (kk : ∀ (v : Option Value) (G' : ax_G) (I' : ax_I) (L' : ax_L), Post' v G' I' L' → ax_X p l e R s m args below meth c nL D T o c0 u0 Q G' I' L' (pc + 3) lv (v.toList ++ rest)) : ax_X p l e R s m args below meth c nL D T o c0 u0 Q G I L pc lv st0 := by
  intro H locs ls a1 a2 a3 a4 a5 S hS X
  have hsz := ax_size C a1 rfl a4 a5 hS X
  obtain ⟨⟨m1, m2, m3, m4, m5⟩, m6, m7⟩ := hm
  have hts := C.2.2.2.2.1
  have hKK := C.2.2.2.2.2.1
  have cb := callB_of (R := R) (s := s) (args := args) (own := own) (index := index) (y := y) (bytes := yb) (maxL := yn) (ret := yret) (rm := ax_rm d' mc' ms') (mc := mc') (ms := ms') As.length hts (ax_goodIn m3) rfl rfl rfl (hts _ m2) (hts _ m1) m4 ⟨hR.1, by show 8 + (yn + 11) + 40 * d' ≤ R.locals; omega⟩
  have hr := va_runV (p := p) (l := l) (e := e) (below := below) (meth := meth) (H := H) (locs := locs) (cells := ax_top G - c0) (slots := ax_used G - u0) (C := y.cls) (b := o + a) (As := As.map (ax_tr o)) (rest := rest.map (ax_tr o)) (g := F0 m pc ls (st0.map (ax_tr o))) ⟨C.1, C.2.1, C.2.2.1, C.2.2.2.1, hts⟩ hcon ⟨cb, hts _ m6, hts _ m7⟩
    ⟨ax_blind D T o G I L _, by rw [← hqc]; exact va_recv hKK a4 (q0 := a) hq (ax_at_o ha hK), fun U hU hW => ⟨by rw [List.map_cons]; rfl, by rw [hU]; exact hsz, by rw [hU]; exact a4, va_K.moved hW.alike hKK, C.2.2.2.2.2.2.2.2.2.2.warm hW⟩⟩
    rfl (by simp) a3.1 (by rw [hst]; simp; rfl) (lv_room (by rw [ax_cats]; exact hrest)) hdg ⟨by omega, by omega⟩
  exact ax_back C a1 a2 a3 a5 hS X hr kk
theorem x_callS (C : ax_C p s m args meth c cc nL own nm ret D T o c0) {index : Nat} {y : MethodName} {yb : ByteArray} {yn d' mc' ms' : Nat} {yret : Option FieldType} {As : List Value} {st0 : List Value} {Post' : Option Value → ax_G → ax_I → ax_L → Prop}
    (hcon : ax_Con l D T o y yb yn yret d' mc' ms' As G I L Post') (hm : ax_ms own index y yb yn yret As.length)
    (hR : d' + 1 ≤ R.frames ∧ 40 * (d' + 1) ≤ R.locals) (hmc : ax_top G + mc' ≤ c0 + R.cells ∧ ax_used G + ms' ≤ u0 + R.slots) (hst : st0 = As.reverse ++ rest) (hrest : (rest.map fun v => v.category).sum ≤ 8) (hdg : decode cc pc = .ok (.invokestatic index, 3))
    (kk : ∀ (v : Option Value) (G' : ax_G) (I' : ax_I) (L' : ax_L), Post' v G' I' L' → ax_X p l e R s m args below meth c nL D T o c0 u0 Q G' I' L' (pc + 3) lv (v.toList ++ rest)) : ax_X p l e R s m args below meth c nL D T o c0 u0 Q G I L pc lv st0 := by
  intro H locs ls a1 a2 a3 a4 a5 S hS X
  have hsz := ax_size C a1 rfl a4 a5 hS X
  obtain ⟨⟨m1, m2, m3, m4, m5⟩, m6⟩ := hm
  have hts := C.2.2.2.2.1
  have hKK := C.2.2.2.2.2.1
  have cb := callB_of (R := R) (s := s) (args := args) (own := own) (index := index) (y := y) (bytes := yb) (maxL := yn) (ret := yret) (rm := ax_rm d' mc' ms') (mc := mc') (ms := ms') As.length hts (ax_goodIn m3) rfl rfl rfl (hts _ m2) (hts _ m1) m4 ⟨hR.1, by show 8 + (yn + 11) + 40 * d' ≤ R.locals; omega⟩
  have hr := va_runS (p := p) (l := l) (e := e) (below := below) (meth := meth) (H := H) (locs := locs) (cells := ax_top G - c0) (slots := ax_used G - u0) (As := As.map (ax_tr o)) (rest := rest.map (ax_tr o)) (g := F0 m pc ls (st0.map (ax_tr o))) ⟨C.1, C.2.1, C.2.2.1, C.2.2.2.1, hts⟩ hcon ⟨cb, hts _ m6⟩
    ⟨ax_blind D T o G I L _, fun U hU hW => ⟨rfl, by rw [hU]; exact hsz, by rw [hU]; exact a4, va_K.moved hW.alike hKK, C.2.2.2.2.2.2.2.2.2.2.warm hW⟩⟩
    rfl (by simp) a3.1 (by rw [hst]; simp) (lv_room (by rw [ax_cats]; exact hrest)) hdg ⟨by omega, by omega⟩
  exact ax_back C a1 a2 a3 a5 hS X hr kk
theorem x_callI (C : ax_C p s m args meth c cc nL own nm ret D T o c0) {index : Nat} {y : MethodName} {yb : ByteArray} {yn d' mc' ms' : Nat} {As : List Value} {st0 : List Value} {Post' : Option Value → ax_G → ax_I → ax_L → Prop}
    (hcon : ax_Con l D T o y yb yn none d' mc' ms' (.ref a :: As) G I L Post') (hm : ax_mi own index y yb yn As.length)
    (hR : d' + 1 ≤ R.frames ∧ 40 * (d' + 1) ≤ R.locals) (hmc : ax_top G + mc' ≤ c0 + R.cells ∧ ax_used G + ms' ≤ u0 + R.slots) (hst : st0 = As.reverse ++ .ref a :: rest) (hrest : (rest.map fun v => v.category).sum ≤ 8) (hdg : decode cc pc = .ok (.invokespecial index, 3))
    (kk : ∀ (v : Option Value) (G' : ax_G) (I' : ax_I) (L' : ax_L), Post' v G' I' L' → ax_X p l e R s m args below meth c nL D T o c0 u0 Q G' I' L' (pc + 3) lv (v.toList ++ rest)) : ax_X p l e R s m args below meth c nL D T o c0 u0 Q G I L pc lv st0 := by
  intro H locs ls a1 a2 a3 a4 a5 S hS X
  have hsz := ax_size C a1 rfl a4 a5 hS X
  obtain ⟨⟨m1, m2, m3, m4, m5⟩, m6, m7⟩ := hm
  have hts := C.2.2.2.2.1
  have hKK := C.2.2.2.2.2.1
  have cb := callB_of (R := R) (s := s) (args := args) (own := own) (index := index) (y := y) (bytes := yb) (maxL := yn) (ret := none) (rm := ax_rm d' mc' ms') (mc := mc') (ms := ms') As.length hts (ax_goodIn m3) rfl rfl rfl (hts _ m2) (hts _ m1) m4 ⟨hR.1, by show 8 + (yn + 11) + 40 * d' ≤ R.locals; omega⟩
  have hr := va_runI (p := p) (l := l) (e := e) (below := below) (meth := meth) (H := H) (locs := locs) (cells := ax_top G - c0) (slots := ax_used G - u0) (b := o + a) (As := As.map (ax_tr o)) (rest := rest.map (ax_tr o)) (g := F0 m pc ls (st0.map (ax_tr o))) ⟨C.1, C.2.1, C.2.2.1, C.2.2.2.1, hts⟩ hcon ⟨cb, m6, hts _ m7⟩
    ⟨ax_blind D T o G I L _, fun U hU hW => ⟨by rw [List.map_cons]; rfl, by rw [hU]; exact hsz, by rw [hU]; exact a4, va_K.moved hW.alike hKK, C.2.2.2.2.2.2.2.2.2.2.warm hW⟩⟩
    rfl (by simp) a3.1 (by rw [hst]; simp; rfl) (lv_room (by rw [ax_cats]; exact hrest)) hdg ⟨by omega, by omega⟩
  exact ax_back C a1 a2 a3 a5 hS X hr kk
theorem x_callN (C : ax_C p s m args meth c cc nL own nm ret D T o c0) {index : Nat} {host : String} {y : MethodName} {yb : ByteArray} {yn d' mc' ms' : Nat} {yret : Option FieldType} {As : List Value} {st0 : List Value} {Post' : Option Value → ax_G → ax_I → ax_L → Prop}
    (hcon : ax_Con l D T o y yb yn yret d' mc' ms' As G I L Post') (hm : ax_mn own host index y yb yn yret As.length)
    (hR : d' + 1 ≤ R.frames ∧ 40 * (d' + 1) ≤ R.locals) (hmc : ax_top G + mc' ≤ c0 + R.cells ∧ ax_used G + ms' ≤ u0 + R.slots) (hst : st0 = As.reverse ++ rest) (hrest : (rest.map fun v => v.category).sum ≤ 8) (hdg : decode cc pc = .ok (.invokestatic index, 3))
    (kk : ∀ (v : Option Value) (G' : ax_G) (I' : ax_I) (L' : ax_L), Post' v G' I' L' → ax_X p l e R s m args below meth c nL D T o c0 u0 Q G' I' L' (pc + 3) lv (v.toList ++ rest)) : ax_X p l e R s m args below meth c nL D T o c0 u0 Q G I L pc lv st0 := by
  intro H locs ls a1 a2 a3 a4 a5 S hS X
  have hsz := ax_size C a1 rfl a4 a5 hS X
  obtain ⟨m1, m2, m3, m4, m5, m6⟩ := hm
  have hts := C.2.2.2.2.1
  have hKK := C.2.2.2.2.2.1
  have cb := va_cnB (R := R) (s := s) (args := args) (own := own) (host := host) (index := index) (y := y) (bytes := yb) (maxL := yn) (ret := yret) (rm := ax_rm d' mc' ms') (mc := mc') (ms := ms') As.length hts (ax_goodIn m3) rfl rfl rfl (va_Nw.of rfl (hts _ m1)) (hts _ m2) m4 ⟨hR.1, by show 8 + (yn + 11) + 40 * d' ≤ R.locals; omega⟩
  have hr := va_runSN (p := p) (l := l) (e := e) (below := below) (meth := meth) (H := H) (locs := locs) (cells := ax_top G - c0) (slots := ax_used G - u0) (As := As.map (ax_tr o)) (rest := rest.map (ax_tr o)) (g := F0 m pc ls (st0.map (ax_tr o))) ⟨C.1, C.2.1, C.2.2.1, C.2.2.2.1, hts⟩ hcon ⟨cb, hts _ m6, trivial⟩
    ⟨ax_blind D T o G I L _, fun U hU hW => ⟨rfl, by rw [hU]; exact hsz, by rw [hU]; exact a4, va_K.moved hW.alike hKK, C.2.2.2.2.2.2.2.2.2.2.warm hW⟩⟩
    rfl (by simp) a3.1 (by rw [hst]; simp) (lv_room (by rw [ax_cats]; exact hrest)) hdg ⟨by omega, by omega⟩
  exact ax_back C a1 a2 a3 a5 hS X hr kk
/-! leaving -/
theorem x_iret (C : ax_C p s m args meth c cc nL own nm ret D T o (ax_top G0)) {v : Int32} (hret : ret = some .int) (hp : Post (some (.int v)) G I L) (ht : ax_top G = ax_top G0 + mc) (hu : ax_used G = ax_used G0 + ms) (hdg : decode cc pc = .ok (.ireturn, 1)) : ax_X p l e R s m args below meth c nL D T o (ax_top G0) (ax_used G0) (MQ below (ax_Q D T o G0 mc ms Post) args s mc ms (fun q => o ≤ q)) G I L pc lv [.int v] := by
  intro H locs ls a1 a2 a3 a4 a5
  rw [show ax_top G - ax_top G0 = mc by omega, show ax_used G - ax_used G0 = ms by omega]
  exact W.iret (v := v) C.1 C.2.1 (C.2.2.2.2.2.2.2.1.trans hret) (fun t h hW => ⟨⟨some (.int v), G, I, L, rfl, hp, by rw [h]; exact a4, ht, hu⟩, a5.F h⟩) a5.2.2 hdg (hlocks := C.2.2.2.2.2.2.1)
theorem x_zret (C : ax_C p s m args meth c cc nL own nm ret D T o (ax_top G0)) {v : Int32} (hret : ret = some .boolean) (hn : narrow .boolean (.int v) = .int v) (hp : Post (some (.int v)) G I L) (ht : ax_top G = ax_top G0 + mc) (hu : ax_used G = ax_used G0 + ms) (hdg : decode cc pc = .ok (.ireturn, 1)) : ax_X p l e R s m args below meth c nL D T o (ax_top G0) (ax_used G0) (MQ below (ax_Q D T o G0 mc ms Post) args s mc ms (fun q => o ≤ q)) G I L pc lv [.int v] := by
  intro H locs ls a1 a2 a3 a4 a5
  rw [show ax_top G - ax_top G0 = mc by omega, show ax_used G - ax_used G0 = ms by omega]
  exact W.zret (v := v) (ty := .boolean) C.1 C.2.1 (C.2.2.2.2.2.2.2.1.trans hret) hn (fun t h hW => ⟨⟨some (.int v), G, I, L, rfl, hp, by rw [h]; exact a4, ht, hu⟩, a5.F h⟩) a5.2.2 hdg (hlocks := C.2.2.2.2.2.2.1)
theorem x_lret (C : ax_C p s m args meth c cc nL own nm ret D T o (ax_top G0)) {v : Int64} (hret : ret = some .long) (hp : Post (some (.long v)) G I L) (ht : ax_top G = ax_top G0 + mc) (hu : ax_used G = ax_used G0 + ms) (hdg : decode cc pc = .ok (.lreturn, 1)) : ax_X p l e R s m args below meth c nL D T o (ax_top G0) (ax_used G0) (MQ below (ax_Q D T o G0 mc ms Post) args s mc ms (fun q => o ≤ q)) G I L pc lv [.long v] := by
  intro H locs ls a1 a2 a3 a4 a5
  rw [show ax_top G - ax_top G0 = mc by omega, show ax_used G - ax_used G0 = ms by omega]
  exact W.lret (v := v) C.1 C.2.1 (C.2.2.2.2.2.2.2.1.trans hret) (fun t h hW => ⟨⟨some (.long v), G, I, L, rfl, hp, by rw [h]; exact a4, ht, hu⟩, a5.F h⟩) a5.2.2 hdg (hlocks := C.2.2.2.2.2.2.1)
theorem x_vret (C : ax_C p s m args meth c cc nL own nm ret D T o (ax_top G0)) (hret : ret = none) (hp : Post none G I L) (ht : ax_top G = ax_top G0 + mc) (hu : ax_used G = ax_used G0 + ms) (hdg : decode cc pc = .ok (.return_, 1)) : ax_X p l e R s m args below meth c nL D T o (ax_top G0) (ax_used G0) (MQ below (ax_Q D T o G0 mc ms Post) args s mc ms (fun q => o ≤ q)) G I L pc lv [] := by
  intro H locs ls a1 a2 a3 a4 a5
  rw [show ax_top G - ax_top G0 = mc by omega, show ax_used G - ax_used G0 = ms by omega]
  exact W.vret C.1 C.2.1 (C.2.2.2.2.2.2.2.1.trans hret) (fun t h hW => ⟨⟨none, G, I, L, rfl, hp, by rw [h]; exact a4, ht, hu⟩, a5.F h⟩) a5.2.2 hdg (hlocks := C.2.2.2.2.2.2.1)
theorem x_aret (C : ax_C p s m args meth c cc nL own nm ret D T o (ax_top G0)) {b : Nat} {n : String} (hret : ret = some (.object n)) (hp : Post (some (.ref b)) G I L) (ht : ax_top G = ax_top G0 + mc) (hu : ax_used G = ax_used G0 + ms) (hdg : decode cc pc = .ok (.areturn, 1)) : ax_X p l e R s m args below meth c nL D T o (ax_top G0) (ax_used G0) (MQ below (ax_Q D T o G0 mc ms Post) args s mc ms (fun q => o ≤ q)) G I L pc lv [.ref b] := by
  intro H locs ls a1 a2 a3 a4 a5
  rw [show ax_top G - ax_top G0 = mc by omega, show ax_used G - ax_used G0 = ms by omega]
  exact W.aret (v := .ref (o + b)) C.1 C.2.1 (C.2.2.2.2.2.2.2.1.trans hret) (Or.inl ⟨_, rfl⟩) (Or.inr ⟨_, rfl⟩) (fun t h hW => ⟨⟨some (.ref b), G, I, L, rfl, hp, by rw [h]; exact a4, ht, hu⟩, a5.F h⟩) a5.2.2 hdg (hlocks := C.2.2.2.2.2.2.1)
end AXQ

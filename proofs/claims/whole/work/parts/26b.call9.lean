/-! ===== a call of a small method over a stack of nine words ===== -/
section AXQ
variable {p : Program} {l : Launch} {e : Env} {R : Room} {s : State} {m : MethodId} {args : Array Value} {below : List Frame} {meth : Method} {c : Code}
variable {cc : ByteArray} {nL : Nat} {own nm : String} {ret : Option FieldType} {D : va_G} {T : Nat → ClassId} {o c0 u0 : Nat} {Q : State → Prop}
variable {G G0 : ax_G} {I : ax_I} {L : ax_L} {pc : Nat} {lv : List (Nat × Value)} {st rest : List Value} {a : Nat} {mc ms : Nat} {Post : Option Value → ax_G → ax_I → ax_L → Prop}
theorem x_callV9 (C : ax_C p s m args meth c cc nL own nm ret D T o c0) {index ci : Nat} {y : MethodName} {yb : ByteArray} {yn d' mc' ms' : Nat} {yret : Option FieldType} {As : List Value} {st0 : List Value} {q : vw_C} {Post' : Option Value → ax_G → ax_I → ax_L → Prop}
    (hcon : ax_Con l D T o y yb yn yret d' mc' ms' (.ref a :: As) G I L Post') (hm : ax_mv own index y yb yn yret As.length) (hq : vwCl[ci]? = some q) (hqc : q.1 = y.cls) (ha : a < ax_top G) (hK : ax_K G a = 8 + ci)
    (hR : d' + 1 ≤ R.frames ∧ 40 * (d' + 1) ≤ R.locals) (hmc : ax_top G + mc' ≤ c0 + R.cells ∧ ax_used G + ms' ≤ u0 + R.slots) (hst : st0 = As.reverse ++ .ref a :: rest) (hrest : (rest.map fun v => v.category).sum ≤ 9) (hyn : yn ≤ 20) (hdg : decode cc pc = .ok (.invokevirtual index, 3))
    (kk : ∀ (v : Option Value) (G' : ax_G) (I' : ax_I) (L' : ax_L), Post' v G' I' L' → ax_X p l e R s m args below meth c nL D T o c0 u0 Q G' I' L' (pc + 3) lv (v.toList ++ rest)) : ax_X p l e R s m args below meth c nL D T o c0 u0 Q G I L pc lv st0 := by
  intro H locs ls a1 a2 a3 a4 a5 S hS X
  have hsz := ax_size C a1 rfl a4 a5 hS X
  obtain ⟨⟨m1, m2, m3, m4, m5⟩, m6, m7⟩ := hm
  have hts := C.2.2.2.2.1
  have hKK := C.2.2.2.2.2.1
  have cb := callB_of (R := R) (s := s) (args := args) (own := own) (index := index) (y := y) (bytes := yb) (maxL := yn) (ret := yret) (rm := ax_rm d' mc' ms') (mc := mc') (ms := ms') As.length hts (ax_goodIn m3) rfl rfl rfl (hts _ m2) (hts _ m1) m4 ⟨hR.1, by show 8 + (yn + 11) + 40 * d' ≤ R.locals; omega⟩
  have hK9 : Back l R p e below s args y 3 9 (PreOf R mc' ms' (ax_Pc D T o G I L (.ref a :: As))) (PostOf (ax_Q D T o G mc' ms' Post') mc' ms' (fun q => o ≤ q)) := by
    obtain ⟨hrc, hrs, hfr, -, hws, hcw, -, hini, -⟩ := cb
    exact back_of (bytes := yb) (maxL := yn) (ret := yret) hcon (ax_blind D T o G I L _) hrc hrs hfr (by show 9 + (yn + 11) + 40 * d' ≤ R.locals; omega) hws hcw (fun a' U hW => word_at hW (Or.inl (by first | rfl | simp [Cond.onTables, Cond.keeps, Cond.steady])) hini)
  obtain ⟨-, -, -, -, -, -, hcode, -, hy, hlen, hlk⟩ := cb
  obtain ⟨cellB, hcB, hoB, hclB⟩ := va_recv hKK a4 (q0 := a) hq (ax_at_o ha hK)
  have hlen2 : ∀ sig, parseMethodDescriptor y.desc = some sig → (As.map (ax_tr o)).length = sig.parameters.length := fun sig h => by rw [List.length_map]; exact hlen sig h
  have hstk : (F0 m pc ls (st0.map (ax_tr o))).stack = (As.map (ax_tr o)).reverse ++ .ref (o + a) :: rest.map (ax_tr o) := by rw [hst]; simp; rfl
  have hwid : 2 * (F0 m pc ls (st0.map (ax_tr o))).monitorRoom + ((rest.map (ax_tr o)).map fun v => v.category).sum ≤ 9 := by
    rw [ax_cats]
    show 2 * 0 + _ ≤ 9
    omega
  have hr : va_Run p l e R s m args below meth c H locs (ax_top G - c0) (ax_used G - u0) mc' ms' (F0 m pc ls (st0.map (ax_tr o))) (rest.map (ax_tr o)) (ax_Q D T o G mc' ms' Post' (Value.ref (o + a) :: As.map (ax_tr o)).toArray) (fun q => o ≤ q) := by
    intro T9 hT Xt
    have hpre : ∀ vm₁, s.WarmedH vm₁ → PreOf R mc' ms' (ax_Pc D T o G I L (.ref a :: As)) ⟨T9.setVm vm₁, locs, ax_top G - c0, ax_used G - u0⟩ (Value.ref (o + a) :: As.map (ax_tr o)).toArray := fun vm₁ hW => ⟨by show ax_top G - c0 + mc' ≤ R.cells; omega, by show ax_used G - u0 + ms' ≤ R.slots; omega, by
      refine ⟨by rw [List.map_cons]; rfl, by show T9.heap.size = _; rw [hT]; exact hsz, by show ax_P D T o G I L T9.heap; rw [hT]; exact a4, va_K.moved hW.alike hKK, C.2.2.2.2.2.2.2.2.2.2.warm hW⟩⟩
    obtain ⟨v, vm₁, ⟨U', l2, c2, s2⟩, hW₁, X', ⟨g', mk, t, Lc, e1, e2, hq9, h1, hL, h2, h3⟩, go⟩ := callV Xt C.1 (C := y.cls) (bytes := yb) (maxL := yn) (ret := yret) C.2.2.2.1 hlk (hts _ m6) (hts _ m7) hcode hy hK9 (b := o + a) (cellB := cellB) (by rw [hT]; exact hcB) hoB (by rw [← hqc]; exact hclB) (g := F0 m pc ls (st0.map (ax_tr o))) rfl (a3.1.trans C.2.2.1.symm) (argsL := As.map (ax_tr o)) (rest := rest.map (ax_tr o)) hlen2 hstk hwid (by rw [C.2.1]; exact hdg) hpre
    dsimp only [Pt.U, Pt.locs, Pt.cells, Pt.slots] at X' e1 e2 h1 h2 h3 go
    subst h1
    subst h2
    subst h3
    exact ⟨v, (T9.setVm vm₁).calling g' mk (Value.ref (o + a) :: As.map (ax_tr o)).toArray, t, U', Lc, hT, X', hL, e1, e2, hq9, go⟩
  exact ax_back C a1 a2 a3 a5 hS X hr kk
end AXQ

/-! ===== the law: its end ===== -/
theorem ay_drop {s s' : State} {locs : List Loc} {c n : Nat} (h : s.sameButNew s' locs c n) (hl : ∀ q ∈ locs, s.heap.size ≤ q.base) : s.sameButNew s' [] c n := by
  refine ⟨h.1, h.2.1, h.2.2.1, h.2.2.2.1, h.2.2.2.2.1, fun a k hk => ?_⟩
  obtain ⟨k', h1, h2, h3, h4⟩ := h.2.2.2.2.2 a k hk
  refine ⟨k', h1, h2, h3, fun i _ => h4 i (fun hm => ?_)⟩
  have h5 : s.heap.size ≤ a := hl _ hm
  have h6 : a < s.heap.size := (Array.getElem?_eq_some_iff.mp hk).1
  exact absurd h6 (Nat.not_lt.mpr h5)
/-- how the law ends -/
def ay_Z (below : List Frame) (s : State) : State → Prop := fun t => ∃ o, t.status = .running ∧ Ended t below o ∧ (o = .returned (some (.int 1)) ∧ Framed s o t [] 600000 7302250)
theorem ay_ret {p : Program} {l : Launch} {e : Env} {s : State} {m : MethodId} {below : List Frame} {meth : Method} {c : Code} {b : Nat} (hx : p.tables.exec = Jvm.exec) (hb : c.code = cL_law) (hr : meth.sig.returnType = ret) (hlocks : meth.locks = false) {pc : Nat} {H : Heap} {ls : Array Slot} {locs : List Loc} {cells slots : Nat} (hlo : ∀ q ∈ locs, s.heap.size ≤ q.base) (hc : cells ≤ 600000) (hs : slots ≤ 7302250) (hdg : decode cL_law pc = .ok (.ireturn, 1)) : W p l e room_1 s m #[Value.ref b] below meth c H locs cells slots (ay_Z below s) (F0 m pc ls [.int 1]) := by
  intro T hT X
  obtain ⟨fs, hret, hrun, hended, hW, hframe⟩ := X.leave (v := some (.int 1)) (hlocks := hlocks) (fun h => by rw [hr] at h; cases h)
  have hmeth' : T.vm.method? m = some meth := X.method'
  refine ⟨T.setFrames fs, ?_, .returned (some (.int 1)), hrun, hended, rfl, ⟨_, rfl⟩, hW, (ay_drop hframe hlo).mono hc hs⟩
  jvm_step X.here [X.here.top, hx, hb, hdg, hmeth', hr, ret, narrow_b1]
  (try refine ⟨rfl, ?_⟩); (try refine ⟨rfl, ?_⟩)
  first | (intro acts; rw [hret _ acts rfl rfl rfl]) | rw [hret _ _ rfl rfl rfl]
  exact Steps.refl _
theorem law_end {p : Program} {l : Launch} {e : Env} {s : State} {m : MethodId} {below : List Frame} {meth : Method} {c : Code} {b0 : Nat} {nm : String} {D : va_G} {T : Nat → ClassId} (C : ax_C p s m #[Value.ref b0] meth c cL_law 4 RL nm ret D T s.heap.size 0) {G : ax_G} {I : ax_I} {L : ax_L} (lv : List (Nat × Value)) (h1 : ax_top G ≤ 600000) (h2 : ax_used G ≤ 7302250) : ax_Y b0 p l e room_1 s m #[Value.ref b0] below meth c 4 D T s.heap.size 0 0 (ay_Z below s) G I L 1778 lv [] := by
  refine y_iconst C (v := 1) (dk ddL_law_p33 34 rfl) (by decide) ?_
  intro H locs ls a1 a2 a3 a4 a5
  exact ay_ret C.1 C.2.1 C.2.2.2.2.2.2.2.1 C.2.2.2.2.2.2.1 a5.2.2 (by omega) (by omega) (dk ddL_law_p33 35 rfl)
/-- the law, with what the tables tell of the classes: out of a relation between the two objects that holds when they are made and that every call keeps, with one answer -/
theorem law_whole {p : Program} {e : Env} {s : State} {m : MethodId} {below : List Frame} {meth : Method} {c : Code} (l : Launch) {b Ls : Nat} {xs : Nat → Int32} {D : va_G} {T : Nat → ClassId} {Rel : ax_G → ax_I → ax_L → Prop} (hL : Ls ≤ 3584)
    (hx : p.tables.exec = Jvm.exec) (hb : c.code = cL_law) (hr : meth.sig.returnType = ret) (hml : c.maxLocals = 4) (hown : s.vm.findClass RL = some m.cls) (hts : ∀ w ∈ lw_tbl, w.before #[Value.ref b] s = true) (hX : va_X b Ls xs s s.heap) (hbl : b < s.heap.size) (hlk : meth.locks = false) (hK : va_K D vwCl (ax_tys T) s)
    (hRel : ∀ G I L, Rel G I L → 0 < ax_top G ∧ ax_K G 0 = 8 + 10 ∧ 639 < ax_top G ∧ ax_K G 639 = 8 + 11 ∧ ax_top G ≤ 600000 ∧ ax_used G ≤ 7302250) (hNw : ∀ G I L, ay_Nw G I L → Rel G I L)
    (h0 : law_P0 l D T s.heap.size 1000 Rel 0 639) (h1 : law_P1 l D T s.heap.size 1000 Rel 0 639) (h2 : law_P2 l D T s.heap.size 1000 Rel 0 639) (h3 : law_P3 l D T s.heap.size 1000 Rel 0 639) (h4 : law_P4 l D T s.heap.size 1000 Rel 0 639) (h5 : law_P5 l D T s.heap.size 1000 Rel 0 639) (h6 : law_P6 l D T s.heap.size 1000 Rel 0 639) (h7 : law_P7 l D T s.heap.size 1000 Rel 0 639) (h8 : law_P8 l D T s.heap.size 1000 Rel 0 639) (h9 : law_P9 l D T s.heap.size 1000 Rel 0 639) (h10 : law_P10 l D T s.heap.size 1000 Rel 0 639) (h11 : law_P11 l D T s.heap.size 1000 Rel 0 639) (h12 : law_P12 l D T s.heap.size 1000 Rel 0 639) (h13 : law_P13 l D T s.heap.size 1000 Rel 0 639) (h14 : law_P14 l D T s.heap.size 1000 Rel 0 639) (h15 : law_P15 l D T s.heap.size 1000 Rel 0 639) (h16 : law_P16 l D T s.heap.size 1000 Rel 0 639) (h17 : law_P17 l D T s.heap.size 1000 Rel 0 639) (h18 : law_P18 l D T s.heap.size 1000 Rel 0 639) (h19 : law_P19 l D T s.heap.size 1000 Rel 0 639) (h20 : law_P20 l D T s.heap.size 1000 Rel 0 639) (h21 : law_P21 l D T s.heap.size 1000 Rel 0 639) (h22 : law_P22 l D T s.heap.size 1000 Rel 0 639) (h23 : law_P23 l D T s.heap.size 1000 Rel 0 639) (h24 : law_P24 l D T s.heap.size 1000 Rel 0 639) (h25 : law_P25 l D T s.heap.size 1000 Rel 0 639) (h26 : law_P26 l D T s.heap.size 1000 Rel 0 639) (h27 : law_P27 l D T s.heap.size 1000 Rel 0 639) (h28 : law_P28 l D T s.heap.size 1000 Rel 0 639) (h29 : law_P29 l D T s.heap.size 1000 Rel 0 639) (h30 : law_P30 l D T s.heap.size 1000 Rel 0 639) (h31 : law_P31 l D T s.heap.size 1000 Rel 0 639) (h32 : law_P32 l D T s.heap.size 1000 Rel 0 639) (h33 : law_P33 l D T s.heap.size 1000 Rel 0 639) (h34 : law_P34 l D T s.heap.size 1000 Rel 0 639) (h35 : law_P35 l D T s.heap.size 1000 Rel 0 639) (h36 : law_P36 l D T s.heap.size 1000 Rel 0 639) (h37 : law_P37 l D T s.heap.size 1000 Rel 0 639) : W p l e room_1 s m #[Value.ref b] below meth c s.heap [] 0 0 (ay_Z below s) (entryFrame m ([Value.ref b] : List Value).toArray 4) := by
  have huse : ∀ w ∈ lw_use, w.before #[Value.ref b] s = true := fun w hw => hts w (List.mem_filter.mp hw).1
  have hNS : ax_NS s := fun w hw => ax_any (List.mem_filter.mp hw).2 (huse w hw)
  have C : ax_C p s m #[Value.ref b] meth c cL_law 4 RL meth.name ret D T s.heap.size 0 := ⟨hx, hb, hml, hown, huse, hK, hlk, hr, rfl, rfl, hNS⟩
  have hF : ay_Rm Rel 0 639 1000 0 0 room_1 := ⟨fun G I L h => by
    obtain ⟨g1, g2, g3, g4, g5, g6⟩ := hRel G I L h
    exact ⟨g1, g2, g3, g4, Nat.zero_le _, Nat.zero_le _, by show ax_top G + 0 ≤ 0 + 600000; omega, by show ax_used G + 0 ≤ 0 + 7302250; omega⟩, by decide, by decide⟩
  have h := law_start (l := l) (e := e) (R := room_1) (below := below) (Q := ay_Z below s) (d := 1000) C hX hbl hbl hL hF (by decide) (by decide) (by decide) hNw h0 h1 h2 h3 h4 h5 h6 h7 h8 h9 h10 h11 h12 h13 h14 h15 h16 h17 h18 h19 h20 h21 h22 h23 h24 h25 h26 h27 h28 h29 h30 h31 h32 h33 h34 h35 h36 h37 (fun G I L lv hr => law_end C lv (hRel G I L hr).2.2.2.2.1 (hRel G I L hr).2.2.2.2.2)
  rw [lg_entry_eq]
  exact h s.heap [] _ (Nat.zero_le _) (Nat.zero_le _) (lv_entry [Value.ref b] (n := 4) (Nat.le_of_ble_eq_true rfl)) (fun q x hq => by
    have h9 := (List.getElem?_eq_some_iff.mp hq).1
    rw [ax_ws_len] at h9
    exact absurd h9 (Nat.not_lt_zero _)) va_S.rf

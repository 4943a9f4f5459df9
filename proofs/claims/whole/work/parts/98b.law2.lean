/-! ===== the law: its arms ===== -/
/-- two methods, called one after the other with the same numbers, tell the same, and what is told by Rel holds again -/
def ay_PI (l : Launch) (D : va_G) (T : Nat → ClassId) (o d : Nat) (Rel : ax_G → ax_I → ax_L → Prop) (a1 a2 : Nat) (y1 : MethodName) (b1 : ByteArray) (n1 : Nat) (r1 : Option FieldType) (y2 : MethodName) (b2 : ByteArray) (n2 : Nat) (r2 : Option FieldType) (As : List Value) : Prop :=
  ∀ G I L, Rel G I L → ∃ v : Int32, ax_Con l D T o y1 b1 n1 r1 d 0 0 (.ref a1 :: As) G I L (fun z G' I' L' => z = some (.int v) ∧ G = G' ∧ ax_Con l D T o y2 b2 n2 r2 d 0 0 (.ref a2 :: As) G I' L' (fun z2 G2 I2 L2 => z2 = some (.int v) ∧ Rel G2 I2 L2))
/-- two methods, called one after the other with the same numbers, tell the same, and what is told by Rel holds again -/
def ay_PJ (l : Launch) (D : va_G) (T : Nat → ClassId) (o d : Nat) (Rel : ax_G → ax_I → ax_L → Prop) (a1 a2 : Nat) (y1 : MethodName) (b1 : ByteArray) (n1 : Nat) (r1 : Option FieldType) (y2 : MethodName) (b2 : ByteArray) (n2 : Nat) (r2 : Option FieldType) (As : List Value) : Prop :=
  ∀ G I L, Rel G I L → ∃ v : Int64, ax_Con l D T o y1 b1 n1 r1 d 0 0 (.ref a1 :: As) G I L (fun z G' I' L' => z = some (.long v) ∧ G = G' ∧ ax_Con l D T o y2 b2 n2 r2 d 0 0 (.ref a2 :: As) G I' L' (fun z2 G2 I2 L2 => z2 = some (.long v) ∧ Rel G2 I2 L2))
/-- what Rel tells of the memory's form, and the room -/
def ay_Rm (Rel : ax_G → ax_I → ax_L → Prop) (a1 a2 d c0 u0 : Nat) (R : Room) : Prop := (∀ G I L, Rel G I L → a1 < ax_top G ∧ ax_K G a1 = 8 + 10 ∧ a2 < ax_top G ∧ ax_K G a2 = 8 + 11 ∧ c0 ≤ ax_top G ∧ u0 ≤ ax_used G ∧ ax_top G + 0 ≤ c0 + R.cells ∧ ax_used G + 0 ≤ u0 + R.slots) ∧ (d + 1 ≤ R.frames ∧ 40 * (d + 1) ≤ R.locals)
set_option maxRecDepth 20000 in
/-- arm 0 -/
theorem law_arm_0 {p : Program} {l : Launch} {e : Env} {R : Room} {s : State} {m : MethodId} {args : Array Value} {below : List Frame} {meth : Method} {c : Code} {b0 : Nat} {nm : String} {ret : Option FieldType} {D : va_G} {T : Nat → ClassId} {o c0 u0 : Nat} {Q : State → Prop} {G : ax_G} {I : ax_I} {L : ax_L} {Rel : ax_G → ax_I → ax_L → Prop} {a1 a2 d Ls i : Nat} {xs : Nat → Int32}
    (C : ax_C p s m args meth c cL_law 4 RL nm ret D T o c0) (hX : va_X b0 Ls xs s s.heap) (hbl : b0 < s.heap.size) (hbo : b0 < o) (hi : i + 7 ≤ Ls) (hL : Ls < 2 ^ 31) (hF : ay_Rm Rel a1 a2 d c0 u0 R) (hr : Rel G I L)
    (hP : ay_PI l D T o d Rel a1 a2 yX10_group cX10_group 4 (some .int) yX11_group cX11_group 5 (some .int) [.int (xs (i + 1)), .int (xs (i + 2))])
    (kt : ∀ G I L, Rel G I L → ax_Y b0 p l e R s m args below meth c 4 D T o c0 u0 Q G I L 1772 [(3, .int (nI i)), (2, .ref a2), (1, .ref a1)] []) : ax_Y b0 p l e R s m args below meth c 4 D T o c0 u0 Q G I L 200 [(3, .int (nI i)), (2, .ref a2), (1, .ref a1)] [] := by
  obtain ⟨v, hc⟩ := hP G I L hr
  obtain ⟨g1_, g2_, g3_, g4_, -, -, g5_, g6_⟩ := hF.1 G I L hr
  refine y_aload_n C (dk ddL_law 22 rfl) rfl ?_
  refine y_sld C (i := i) (k := 1) hX hbl hbo (dk ddL_law 23 rfl) (dk ddL_law 24 rfl) (dk ddL_law 25 rfl) (dk ddL_law 26 rfl) (dk ddL_law 27 rfl) rfl (by first | rfl | decide) (by omega) hL ?_
  refine y_sld C (i := i) (k := 2) hX hbl hbo (dk ddL_law 28 rfl) (dk ddL_law 29 rfl) (dk ddL_law 30 rfl) (dk ddL_law 31 rfl) (dk ddL_law 32 rfl) rfl (by first | rfl | decide) (by omega) hL ?_
  refine y_callV C (ci := 10) (As := [.int (xs (i + 1)), .int (xs (i + 2))]) hc mlL_13 rfl rfl g1_ g2_ hF.2 ⟨g5_, g6_⟩ rfl (Nat.le_of_ble_eq_true rfl) (dk ddL_law 33 rfl) ?_
  rintro v_ G_ I_ L_ ⟨rfl, rfl, hc2⟩
  refine y_aload_n C (dk ddL_law 34 rfl) rfl ?_
  refine y_sld C (i := i) (k := 1) hX hbl hbo (dk ddL_law 35 rfl) (dk ddL_law 36 rfl) (dk ddL_law 37 rfl) (dk ddL_law 38 rfl) (dk ddL_law 39 rfl) rfl (by first | rfl | decide) (by omega) hL ?_
  refine y_sld C (i := i) (k := 2) hX hbl hbo (dk ddL_law_p1 0 rfl) (dk ddL_law_p1 1 rfl) (dk ddL_law_p1 2 rfl) (dk ddL_law_p1 3 rfl) (dk ddL_law_p1 4 rfl) rfl (by first | rfl | decide) (by omega) hL ?_
  refine y_callV C (ci := 11) (As := [.int (xs (i + 1)), .int (xs (i + 2))]) hc2 mlL_17 rfl rfl g3_ g4_ hF.2 ⟨g5_, g6_⟩ rfl (Nat.le_of_ble_eq_true rfl) (dk ddL_law_p1 5 rfl) ?_
  rintro v_ G_ I_ L_ ⟨rfl, hr2⟩
  exact y_icmp_eq C (tgt := 1772) (dk ddL_law_p1 6 rfl) (by decide) (fun _ => kt _ _ _ hr2) (fun h => absurd rfl h)
set_option maxRecDepth 20000 in
/-- arm 1 -/
theorem law_arm_1 {p : Program} {l : Launch} {e : Env} {R : Room} {s : State} {m : MethodId} {args : Array Value} {below : List Frame} {meth : Method} {c : Code} {b0 : Nat} {nm : String} {ret : Option FieldType} {D : va_G} {T : Nat → ClassId} {o c0 u0 : Nat} {Q : State → Prop} {G : ax_G} {I : ax_I} {L : ax_L} {Rel : ax_G → ax_I → ax_L → Prop} {a1 a2 d Ls i : Nat} {xs : Nat → Int32}
    (C : ax_C p s m args meth c cL_law 4 RL nm ret D T o c0) (hX : va_X b0 Ls xs s s.heap) (hbl : b0 < s.heap.size) (hbo : b0 < o) (hi : i + 7 ≤ Ls) (hL : Ls < 2 ^ 31) (hF : ay_Rm Rel a1 a2 d c0 u0 R) (hr : Rel G I L)
    (hP : ay_PI l D T o d Rel a1 a2 yX10_relation cX10_relation 5 (some .int) yX11_relation cX11_relation 6 (some .int) [.int (xs (i + 1)), .int (xs (i + 2)), .int (xs (i + 3)), .int (xs (i + 4))])
    (kt : ∀ G I L, Rel G I L → ax_Y b0 p l e R s m args below meth c 4 D T o c0 u0 Q G I L 1772 [(3, .int (nI i)), (2, .ref a2), (1, .ref a1)] []) : ax_Y b0 p l e R s m args below meth c 4 D T o c0 u0 Q G I L 233 [(3, .int (nI i)), (2, .ref a2), (1, .ref a1)] [] := by
  obtain ⟨v, hc⟩ := hP G I L hr
  obtain ⟨g1_, g2_, g3_, g4_, -, -, g5_, g6_⟩ := hF.1 G I L hr
  refine y_aload_n C (dk ddL_law_p1 9 rfl) rfl ?_
  refine y_sld C (i := i) (k := 1) hX hbl hbo (dk ddL_law_p1 10 rfl) (dk ddL_law_p1 11 rfl) (dk ddL_law_p1 12 rfl) (dk ddL_law_p1 13 rfl) (dk ddL_law_p1 14 rfl) rfl (by first | rfl | decide) (by omega) hL ?_
  refine y_sld C (i := i) (k := 2) hX hbl hbo (dk ddL_law_p1 15 rfl) (dk ddL_law_p1 16 rfl) (dk ddL_law_p1 17 rfl) (dk ddL_law_p1 18 rfl) (dk ddL_law_p1 19 rfl) rfl (by first | rfl | decide) (by omega) hL ?_
  refine y_sld C (i := i) (k := 3) hX hbl hbo (dk ddL_law_p1 20 rfl) (dk ddL_law_p1 21 rfl) (dk ddL_law_p1 22 rfl) (dk ddL_law_p1 23 rfl) (dk ddL_law_p1 24 rfl) rfl (by first | rfl | decide) (by omega) hL ?_
  refine y_sld C (i := i) (k := 4) hX hbl hbo (dk ddL_law_p1 25 rfl) (dk ddL_law_p1 26 rfl) (dk ddL_law_p1 27 rfl) (dk ddL_law_p1 28 rfl) (dk ddL_law_p1 29 rfl) rfl (by first | rfl | decide) (by omega) hL ?_
  refine y_callV C (ci := 10) (As := [.int (xs (i + 1)), .int (xs (i + 2)), .int (xs (i + 3)), .int (xs (i + 4))]) hc mlL_18 rfl rfl g1_ g2_ hF.2 ⟨g5_, g6_⟩ rfl (Nat.le_of_ble_eq_true rfl) (dk ddL_law_p1 30 rfl) ?_
  rintro v_ G_ I_ L_ ⟨rfl, rfl, hc2⟩
  refine y_aload_n C (dk ddL_law_p1 31 rfl) rfl ?_
  refine y_sld C (i := i) (k := 1) hX hbl hbo (dk ddL_law_p1 32 rfl) (dk ddL_law_p1 33 rfl) (dk ddL_law_p1 34 rfl) (dk ddL_law_p1 35 rfl) (dk ddL_law_p1 36 rfl) rfl (by first | rfl | decide) (by omega) hL ?_
  refine y_sld C (i := i) (k := 2) hX hbl hbo (dk ddL_law_p1 37 rfl) (dk ddL_law_p1 38 rfl) (dk ddL_law_p1 39 rfl) (dk ddL_law_p2 0 rfl) (dk ddL_law_p2 1 rfl) rfl (by first | rfl | decide) (by omega) hL ?_
  refine y_sld C (i := i) (k := 3) hX hbl hbo (dk ddL_law_p2 2 rfl) (dk ddL_law_p2 3 rfl) (dk ddL_law_p2 4 rfl) (dk ddL_law_p2 5 rfl) (dk ddL_law_p2 6 rfl) rfl (by first | rfl | decide) (by omega) hL ?_
  refine y_sld C (i := i) (k := 4) hX hbl hbo (dk ddL_law_p2 7 rfl) (dk ddL_law_p2 8 rfl) (dk ddL_law_p2 9 rfl) (dk ddL_law_p2 10 rfl) (dk ddL_law_p2 11 rfl) rfl (by first | rfl | decide) (by omega) hL ?_
  refine y_callV C (ci := 11) (As := [.int (xs (i + 1)), .int (xs (i + 2)), .int (xs (i + 3)), .int (xs (i + 4))]) hc2 mlL_22 rfl rfl g3_ g4_ hF.2 ⟨g5_, g6_⟩ rfl (Nat.le_of_ble_eq_true rfl) (dk ddL_law_p2 12 rfl) ?_
  rintro v_ G_ I_ L_ ⟨rfl, hr2⟩
  exact y_icmp_eq C (tgt := 1772) (dk ddL_law_p2 13 rfl) (by decide) (fun _ => kt _ _ _ hr2) (fun h => absurd rfl h)
set_option maxRecDepth 20000 in
/-- arm 2 -/
theorem law_arm_2 {p : Program} {l : Launch} {e : Env} {R : Room} {s : State} {m : MethodId} {args : Array Value} {below : List Frame} {meth : Method} {c : Code} {b0 : Nat} {nm : String} {ret : Option FieldType} {D : va_G} {T : Nat → ClassId} {o c0 u0 : Nat} {Q : State → Prop} {G : ax_G} {I : ax_I} {L : ax_L} {Rel : ax_G → ax_I → ax_L → Prop} {a1 a2 d Ls i : Nat} {xs : Nat → Int32}
    (C : ax_C p s m args meth c cL_law 4 RL nm ret D T o c0) (hX : va_X b0 Ls xs s s.heap) (hbl : b0 < s.heap.size) (hbo : b0 < o) (hi : i + 7 ≤ Ls) (hL : Ls < 2 ^ 31) (hF : ay_Rm Rel a1 a2 d c0 u0 R) (hr : Rel G I L)
    (hP : ay_PI l D T o d Rel a1 a2 yX10_groupIs cX10_groupIs 3 (some .int) yX11_groupIs cX11_groupIs 3 (some .int) [.int (xs (i + 1)), .int (xs (i + 2))])
    (kt : ∀ G I L, Rel G I L → ax_Y b0 p l e R s m args below meth c 4 D T o c0 u0 Q G I L 1772 [(3, .int (nI i)), (2, .ref a2), (1, .ref a1)] []) : ax_Y b0 p l e R s m args below meth c 4 D T o c0 u0 Q G I L 286 [(3, .int (nI i)), (2, .ref a2), (1, .ref a1)] [] := by
  obtain ⟨v, hc⟩ := hP G I L hr
  obtain ⟨g1_, g2_, g3_, g4_, -, -, g5_, g6_⟩ := hF.1 G I L hr
  refine y_aload_n C (dk ddL_law_p2 16 rfl) rfl ?_
  refine y_sld C (i := i) (k := 1) hX hbl hbo (dk ddL_law_p2 17 rfl) (dk ddL_law_p2 18 rfl) (dk ddL_law_p2 19 rfl) (dk ddL_law_p2 20 rfl) (dk ddL_law_p2 21 rfl) rfl (by first | rfl | decide) (by omega) hL ?_
  refine y_sld C (i := i) (k := 2) hX hbl hbo (dk ddL_law_p2 22 rfl) (dk ddL_law_p2 23 rfl) (dk ddL_law_p2 24 rfl) (dk ddL_law_p2 25 rfl) (dk ddL_law_p2 26 rfl) rfl (by first | rfl | decide) (by omega) hL ?_
  refine y_callV C (ci := 10) (As := [.int (xs (i + 1)), .int (xs (i + 2))]) hc mlL_23 rfl rfl g1_ g2_ hF.2 ⟨g5_, g6_⟩ rfl (Nat.le_of_ble_eq_true rfl) (dk ddL_law_p2 27 rfl) ?_
  rintro v_ G_ I_ L_ ⟨rfl, rfl, hc2⟩
  refine y_aload_n C (dk ddL_law_p2 28 rfl) rfl ?_
  refine y_sld C (i := i) (k := 1) hX hbl hbo (dk ddL_law_p2 29 rfl) (dk ddL_law_p2 30 rfl) (dk ddL_law_p2 31 rfl) (dk ddL_law_p2 32 rfl) (dk ddL_law_p2 33 rfl) rfl (by first | rfl | decide) (by omega) hL ?_
  refine y_sld C (i := i) (k := 2) hX hbl hbo (dk ddL_law_p2 34 rfl) (dk ddL_law_p2 35 rfl) (dk ddL_law_p2 36 rfl) (dk ddL_law_p2 37 rfl) (dk ddL_law_p2 38 rfl) rfl (by first | rfl | decide) (by omega) hL ?_
  refine y_callV C (ci := 11) (As := [.int (xs (i + 1)), .int (xs (i + 2))]) hc2 mlL_26 rfl rfl g3_ g4_ hF.2 ⟨g5_, g6_⟩ rfl (Nat.le_of_ble_eq_true rfl) (dk ddL_law_p2 39 rfl) ?_
  rintro v_ G_ I_ L_ ⟨rfl, hr2⟩
  exact y_icmp_eq C (tgt := 1772) (dk ddL_law_p3 0 rfl) (by decide) (fun _ => kt _ _ _ hr2) (fun h => absurd rfl h)
set_option maxRecDepth 20000 in
/-- arm 3 -/
theorem law_arm_3 {p : Program} {l : Launch} {e : Env} {R : Room} {s : State} {m : MethodId} {args : Array Value} {below : List Frame} {meth : Method} {c : Code} {b0 : Nat} {nm : String} {ret : Option FieldType} {D : va_G} {T : Nat → ClassId} {o c0 u0 : Nat} {Q : State → Prop} {G : ax_G} {I : ax_I} {L : ax_L} {Rel : ax_G → ax_I → ax_L → Prop} {a1 a2 d Ls i : Nat} {xs : Nat → Int32}
    (C : ax_C p s m args meth c cL_law 4 RL nm ret D T o c0) (hX : va_X b0 Ls xs s s.heap) (hbl : b0 < s.heap.size) (hbo : b0 < o) (hi : i + 7 ≤ Ls) (hL : Ls < 2 ^ 31) (hF : ay_Rm Rel a1 a2 d c0 u0 R) (hr : Rel G I L)
    (hP : ay_PI l D T o d Rel a1 a2 yX10_ring cX10_ring 3 (some .int) yX11_ring cX11_ring 3 (some .int) [.int (xs (i + 1)), .int (xs (i + 2))])
    (kt : ∀ G I L, Rel G I L → ax_Y b0 p l e R s m args below meth c 4 D T o c0 u0 Q G I L 1772 [(3, .int (nI i)), (2, .ref a2), (1, .ref a1)] []) : ax_Y b0 p l e R s m args below meth c 4 D T o c0 u0 Q G I L 319 [(3, .int (nI i)), (2, .ref a2), (1, .ref a1)] [] := by
  obtain ⟨v, hc⟩ := hP G I L hr
  obtain ⟨g1_, g2_, g3_, g4_, -, -, g5_, g6_⟩ := hF.1 G I L hr
  refine y_aload_n C (dk ddL_law_p3 3 rfl) rfl ?_
  refine y_sld C (i := i) (k := 1) hX hbl hbo (dk ddL_law_p3 4 rfl) (dk ddL_law_p3 5 rfl) (dk ddL_law_p3 6 rfl) (dk ddL_law_p3 7 rfl) (dk ddL_law_p3 8 rfl) rfl (by first | rfl | decide) (by omega) hL ?_
  refine y_sld C (i := i) (k := 2) hX hbl hbo (dk ddL_law_p3 9 rfl) (dk ddL_law_p3 10 rfl) (dk ddL_law_p3 11 rfl) (dk ddL_law_p3 12 rfl) (dk ddL_law_p3 13 rfl) rfl (by first | rfl | decide) (by omega) hL ?_
  refine y_callV C (ci := 10) (As := [.int (xs (i + 1)), .int (xs (i + 2))]) hc mlL_27 rfl rfl g1_ g2_ hF.2 ⟨g5_, g6_⟩ rfl (Nat.le_of_ble_eq_true rfl) (dk ddL_law_p3 14 rfl) ?_
  rintro v_ G_ I_ L_ ⟨rfl, rfl, hc2⟩
  refine y_aload_n C (dk ddL_law_p3 15 rfl) rfl ?_
  refine y_sld C (i := i) (k := 1) hX hbl hbo (dk ddL_law_p3 16 rfl) (dk ddL_law_p3 17 rfl) (dk ddL_law_p3 18 rfl) (dk ddL_law_p3 19 rfl) (dk ddL_law_p3 20 rfl) rfl (by first | rfl | decide) (by omega) hL ?_
  refine y_sld C (i := i) (k := 2) hX hbl hbo (dk ddL_law_p3 21 rfl) (dk ddL_law_p3 22 rfl) (dk ddL_law_p3 23 rfl) (dk ddL_law_p3 24 rfl) (dk ddL_law_p3 25 rfl) rfl (by first | rfl | decide) (by omega) hL ?_
  refine y_callV C (ci := 11) (As := [.int (xs (i + 1)), .int (xs (i + 2))]) hc2 mlL_30 rfl rfl g3_ g4_ hF.2 ⟨g5_, g6_⟩ rfl (Nat.le_of_ble_eq_true rfl) (dk ddL_law_p3 26 rfl) ?_
  rintro v_ G_ I_ L_ ⟨rfl, hr2⟩
  exact y_icmp_eq C (tgt := 1772) (dk ddL_law_p3 27 rfl) (by decide) (fun _ => kt _ _ _ hr2) (fun h => absurd rfl h)
set_option maxRecDepth 20000 in
/-- arm 4 -/
theorem law_arm_4 {p : Program} {l : Launch} {e : Env} {R : Room} {s : State} {m : MethodId} {args : Array Value} {below : List Frame} {meth : Method} {c : Code} {b0 : Nat} {nm : String} {ret : Option FieldType} {D : va_G} {T : Nat → ClassId} {o c0 u0 : Nat} {Q : State → Prop} {G : ax_G} {I : ax_I} {L : ax_L} {Rel : ax_G → ax_I → ax_L → Prop} {a1 a2 d Ls i : Nat} {xs : Nat → Int32}
    (C : ax_C p s m args meth c cL_law 4 RL nm ret D T o c0) (hX : va_X b0 Ls xs s s.heap) (hbl : b0 < s.heap.size) (hbo : b0 < o) (hi : i + 7 ≤ Ls) (hL : Ls < 2 ^ 31) (hF : ay_Rm Rel a1 a2 d c0 u0 R) (hr : Rel G I L)
    (hP : ay_PI l D T o d Rel a1 a2 yX10_step cX10_step 3 (some .int) yX11_step cX11_step 3 (some .int) [.int (xs (i + 1)), .int (xs (i + 2))])
    (kt : ∀ G I L, Rel G I L → ax_Y b0 p l e R s m args below meth c 4 D T o c0 u0 Q G I L 1772 [(3, .int (nI i)), (2, .ref a2), (1, .ref a1)] []) : ax_Y b0 p l e R s m args below meth c 4 D T o c0 u0 Q G I L 352 [(3, .int (nI i)), (2, .ref a2), (1, .ref a1)] [] := by
  obtain ⟨v, hc⟩ := hP G I L hr
  obtain ⟨g1_, g2_, g3_, g4_, -, -, g5_, g6_⟩ := hF.1 G I L hr
  refine y_aload_n C (dk ddL_law_p3 30 rfl) rfl ?_
  refine y_sld C (i := i) (k := 1) hX hbl hbo (dk ddL_law_p3 31 rfl) (dk ddL_law_p3 32 rfl) (dk ddL_law_p3 33 rfl) (dk ddL_law_p3 34 rfl) (dk ddL_law_p3 35 rfl) rfl (by first | rfl | decide) (by omega) hL ?_
  refine y_sld C (i := i) (k := 2) hX hbl hbo (dk ddL_law_p3 36 rfl) (dk ddL_law_p3 37 rfl) (dk ddL_law_p3 38 rfl) (dk ddL_law_p3 39 rfl) (dk ddL_law_p4 0 rfl) rfl (by first | rfl | decide) (by omega) hL ?_
  refine y_callV C (ci := 10) (As := [.int (xs (i + 1)), .int (xs (i + 2))]) hc mlL_31 rfl rfl g1_ g2_ hF.2 ⟨g5_, g6_⟩ rfl (Nat.le_of_ble_eq_true rfl) (dk ddL_law_p4 1 rfl) ?_
  rintro v_ G_ I_ L_ ⟨rfl, rfl, hc2⟩
  refine y_aload_n C (dk ddL_law_p4 2 rfl) rfl ?_
  refine y_sld C (i := i) (k := 1) hX hbl hbo (dk ddL_law_p4 3 rfl) (dk ddL_law_p4 4 rfl) (dk ddL_law_p4 5 rfl) (dk ddL_law_p4 6 rfl) (dk ddL_law_p4 7 rfl) rfl (by first | rfl | decide) (by omega) hL ?_
  refine y_sld C (i := i) (k := 2) hX hbl hbo (dk ddL_law_p4 8 rfl) (dk ddL_law_p4 9 rfl) (dk ddL_law_p4 10 rfl) (dk ddL_law_p4 11 rfl) (dk ddL_law_p4 12 rfl) rfl (by first | rfl | decide) (by omega) hL ?_
  refine y_callV C (ci := 11) (As := [.int (xs (i + 1)), .int (xs (i + 2))]) hc2 mlL_34 rfl rfl g3_ g4_ hF.2 ⟨g5_, g6_⟩ rfl (Nat.le_of_ble_eq_true rfl) (dk ddL_law_p4 13 rfl) ?_
  rintro v_ G_ I_ L_ ⟨rfl, hr2⟩
  exact y_icmp_eq C (tgt := 1772) (dk ddL_law_p4 14 rfl) (by decide) (fun _ => kt _ _ _ hr2) (fun h => absurd rfl h)
set_option maxRecDepth 20000 in
/-- arm 5 -/
theorem law_arm_5 {p : Program} {l : Launch} {e : Env} {R : Room} {s : State} {m : MethodId} {args : Array Value} {below : List Frame} {meth : Method} {c : Code} {b0 : Nat} {nm : String} {ret : Option FieldType} {D : va_G} {T : Nat → ClassId} {o c0 u0 : Nat} {Q : State → Prop} {G : ax_G} {I : ax_I} {L : ax_L} {Rel : ax_G → ax_I → ax_L → Prop} {a1 a2 d Ls i : Nat} {xs : Nat → Int32}
    (C : ax_C p s m args meth c cL_law 4 RL nm ret D T o c0) (hX : va_X b0 Ls xs s s.heap) (hbl : b0 < s.heap.size) (hbo : b0 < o) (hi : i + 7 ≤ Ls) (hL : Ls < 2 ^ 31) (hF : ay_Rm Rel a1 a2 d c0 u0 R) (hr : Rel G I L)
    (hP : ay_PJ l D T o d Rel a1 a2 yX10_normal cX10_normal 6 (some .long) yX11_normal cX11_normal 6 (some .long) [.int (xs (i + 1)), .int (xs (i + 2)), .int (xs (i + 3)), .int (xs (i + 4)), .int (xs (i + 5))])
    (kt : ∀ G I L, Rel G I L → ax_Y b0 p l e R s m args below meth c 4 D T o c0 u0 Q G I L 1772 [(3, .int (nI i)), (2, .ref a2), (1, .ref a1)] []) : ax_Y b0 p l e R s m args below meth c 4 D T o c0 u0 Q G I L 385 [(3, .int (nI i)), (2, .ref a2), (1, .ref a1)] [] := by
  obtain ⟨v, hc⟩ := hP G I L hr
  obtain ⟨g1_, g2_, g3_, g4_, -, -, g5_, g6_⟩ := hF.1 G I L hr
  refine y_aload_n C (dk ddL_law_p4 17 rfl) rfl ?_
  refine y_sld C (i := i) (k := 1) hX hbl hbo (dk ddL_law_p4 18 rfl) (dk ddL_law_p4 19 rfl) (dk ddL_law_p4 20 rfl) (dk ddL_law_p4 21 rfl) (dk ddL_law_p4 22 rfl) rfl (by first | rfl | decide) (by omega) hL ?_
  refine y_sld C (i := i) (k := 2) hX hbl hbo (dk ddL_law_p4 23 rfl) (dk ddL_law_p4 24 rfl) (dk ddL_law_p4 25 rfl) (dk ddL_law_p4 26 rfl) (dk ddL_law_p4 27 rfl) rfl (by first | rfl | decide) (by omega) hL ?_
  refine y_sld C (i := i) (k := 3) hX hbl hbo (dk ddL_law_p4 28 rfl) (dk ddL_law_p4 29 rfl) (dk ddL_law_p4 30 rfl) (dk ddL_law_p4 31 rfl) (dk ddL_law_p4 32 rfl) rfl (by first | rfl | decide) (by omega) hL ?_
  refine y_sld C (i := i) (k := 4) hX hbl hbo (dk ddL_law_p4 33 rfl) (dk ddL_law_p4 34 rfl) (dk ddL_law_p4 35 rfl) (dk ddL_law_p4 36 rfl) (dk ddL_law_p4 37 rfl) rfl (by first | rfl | decide) (by omega) hL ?_
  refine y_sld C (i := i) (k := 5) hX hbl hbo (dk ddL_law_p4 38 rfl) (dk ddL_law_p4 39 rfl) (dk ddL_law_p5 0 rfl) (dk ddL_law_p5 1 rfl) (dk ddL_law_p5 2 rfl) rfl (by first | rfl | decide) (by omega) hL ?_
  refine y_callV C (ci := 10) (As := [.int (xs (i + 1)), .int (xs (i + 2)), .int (xs (i + 3)), .int (xs (i + 4)), .int (xs (i + 5))]) hc mlL_35 rfl rfl g1_ g2_ hF.2 ⟨g5_, g6_⟩ rfl (Nat.le_of_ble_eq_true rfl) (dk ddL_law_p5 3 rfl) ?_
  rintro v_ G_ I_ L_ ⟨rfl, rfl, hc2⟩
  refine y_aload_n C (dk ddL_law_p5 4 rfl) rfl ?_
  refine y_sld C (i := i) (k := 1) hX hbl hbo (dk ddL_law_p5 5 rfl) (dk ddL_law_p5 6 rfl) (dk ddL_law_p5 7 rfl) (dk ddL_law_p5 8 rfl) (dk ddL_law_p5 9 rfl) rfl (by first | rfl | decide) (by omega) hL ?_
  refine y_sld C (i := i) (k := 2) hX hbl hbo (dk ddL_law_p5 10 rfl) (dk ddL_law_p5 11 rfl) (dk ddL_law_p5 12 rfl) (dk ddL_law_p5 13 rfl) (dk ddL_law_p5 14 rfl) rfl (by first | rfl | decide) (by omega) hL ?_
  refine y_sld C (i := i) (k := 3) hX hbl hbo (dk ddL_law_p5 15 rfl) (dk ddL_law_p5 16 rfl) (dk ddL_law_p5 17 rfl) (dk ddL_law_p5 18 rfl) (dk ddL_law_p5 19 rfl) rfl (by first | rfl | decide) (by omega) hL ?_
  refine y_sld C (i := i) (k := 4) hX hbl hbo (dk ddL_law_p5 20 rfl) (dk ddL_law_p5 21 rfl) (dk ddL_law_p5 22 rfl) (dk ddL_law_p5 23 rfl) (dk ddL_law_p5 24 rfl) rfl (by first | rfl | decide) (by omega) hL ?_
  refine y_sld C (i := i) (k := 5) hX hbl hbo (dk ddL_law_p5 25 rfl) (dk ddL_law_p5 26 rfl) (dk ddL_law_p5 27 rfl) (dk ddL_law_p5 28 rfl) (dk ddL_law_p5 29 rfl) rfl (by first | rfl | decide) (by omega) hL ?_
  refine y_callV C (ci := 11) (As := [.int (xs (i + 1)), .int (xs (i + 2)), .int (xs (i + 3)), .int (xs (i + 4)), .int (xs (i + 5))]) hc2 mlL_39 rfl rfl g3_ g4_ hF.2 ⟨g5_, g6_⟩ rfl (Nat.le_of_ble_eq_true rfl) (dk ddL_law_p5 30 rfl) ?_
  rintro v_ G_ I_ L_ ⟨rfl, hr2⟩
  exact y_lc_eq C (tgt := 1772) (dk ddL_law_p5 31 rfl) (dk ddL_law_p5 32 rfl) (by decide) (fun _ => kt _ _ _ hr2) (fun h => absurd rfl h)
set_option maxRecDepth 20000 in
/-- arm 6 -/
theorem law_arm_6 {p : Program} {l : Launch} {e : Env} {R : Room} {s : State} {m : MethodId} {args : Array Value} {below : List Frame} {meth : Method} {c : Code} {b0 : Nat} {nm : String} {ret : Option FieldType} {D : va_G} {T : Nat → ClassId} {o c0 u0 : Nat} {Q : State → Prop} {G : ax_G} {I : ax_I} {L : ax_L} {Rel : ax_G → ax_I → ax_L → Prop} {a1 a2 d Ls i : Nat} {xs : Nat → Int32}
    (C : ax_C p s m args meth c cL_law 4 RL nm ret D T o c0) (hX : va_X b0 Ls xs s s.heap) (hbl : b0 < s.heap.size) (hbo : b0 < o) (hi : i + 7 ≤ Ls) (hL : Ls < 2 ^ 31) (hF : ay_Rm Rel a1 a2 d c0 u0 R) (hr : Rel G I L)
    (hP : ay_PI l D T o d Rel a1 a2 yX10_order cX10_order 5 (some .int) yX11_order cX11_order 13 (some .int) [.int (xs (i + 1)), .int (xs (i + 2)), .int (xs (i + 3)), .int (xs (i + 4))])
    (kt : ∀ G I L, Rel G I L → ax_Y b0 p l e R s m args below meth c 4 D T o c0 u0 Q G I L 1772 [(3, .int (nI i)), (2, .ref a2), (1, .ref a1)] []) : ax_Y b0 p l e R s m args below meth c 4 D T o c0 u0 Q G I L 449 [(3, .int (nI i)), (2, .ref a2), (1, .ref a1)] [] := by
  obtain ⟨v, hc⟩ := hP G I L hr
  obtain ⟨g1_, g2_, g3_, g4_, -, -, g5_, g6_⟩ := hF.1 G I L hr
  refine y_aload_n C (dk ddL_law_p5 35 rfl) rfl ?_
  refine y_sld C (i := i) (k := 1) hX hbl hbo (dk ddL_law_p5 36 rfl) (dk ddL_law_p5 37 rfl) (dk ddL_law_p5 38 rfl) (dk ddL_law_p5 39 rfl) (dk ddL_law_p6 0 rfl) rfl (by first | rfl | decide) (by omega) hL ?_
  refine y_sld C (i := i) (k := 2) hX hbl hbo (dk ddL_law_p6 1 rfl) (dk ddL_law_p6 2 rfl) (dk ddL_law_p6 3 rfl) (dk ddL_law_p6 4 rfl) (dk ddL_law_p6 5 rfl) rfl (by first | rfl | decide) (by omega) hL ?_
  refine y_sld C (i := i) (k := 3) hX hbl hbo (dk ddL_law_p6 6 rfl) (dk ddL_law_p6 7 rfl) (dk ddL_law_p6 8 rfl) (dk ddL_law_p6 9 rfl) (dk ddL_law_p6 10 rfl) rfl (by first | rfl | decide) (by omega) hL ?_
  refine y_sld C (i := i) (k := 4) hX hbl hbo (dk ddL_law_p6 11 rfl) (dk ddL_law_p6 12 rfl) (dk ddL_law_p6 13 rfl) (dk ddL_law_p6 14 rfl) (dk ddL_law_p6 15 rfl) rfl (by first | rfl | decide) (by omega) hL ?_
  refine y_callV C (ci := 10) (As := [.int (xs (i + 1)), .int (xs (i + 2)), .int (xs (i + 3)), .int (xs (i + 4))]) hc mlL_40 rfl rfl g1_ g2_ hF.2 ⟨g5_, g6_⟩ rfl (Nat.le_of_ble_eq_true rfl) (dk ddL_law_p6 16 rfl) ?_
  rintro v_ G_ I_ L_ ⟨rfl, rfl, hc2⟩
  refine y_aload_n C (dk ddL_law_p6 17 rfl) rfl ?_
  refine y_sld C (i := i) (k := 1) hX hbl hbo (dk ddL_law_p6 18 rfl) (dk ddL_law_p6 19 rfl) (dk ddL_law_p6 20 rfl) (dk ddL_law_p6 21 rfl) (dk ddL_law_p6 22 rfl) rfl (by first | rfl | decide) (by omega) hL ?_
  refine y_sld C (i := i) (k := 2) hX hbl hbo (dk ddL_law_p6 23 rfl) (dk ddL_law_p6 24 rfl) (dk ddL_law_p6 25 rfl) (dk ddL_law_p6 26 rfl) (dk ddL_law_p6 27 rfl) rfl (by first | rfl | decide) (by omega) hL ?_
  refine y_sld C (i := i) (k := 3) hX hbl hbo (dk ddL_law_p6 28 rfl) (dk ddL_law_p6 29 rfl) (dk ddL_law_p6 30 rfl) (dk ddL_law_p6 31 rfl) (dk ddL_law_p6 32 rfl) rfl (by first | rfl | decide) (by omega) hL ?_
  refine y_sld C (i := i) (k := 4) hX hbl hbo (dk ddL_law_p6 33 rfl) (dk ddL_law_p6 34 rfl) (dk ddL_law_p6 35 rfl) (dk ddL_law_p6 36 rfl) (dk ddL_law_p6 37 rfl) rfl (by first | rfl | decide) (by omega) hL ?_
  refine y_callV C (ci := 11) (As := [.int (xs (i + 1)), .int (xs (i + 2)), .int (xs (i + 3)), .int (xs (i + 4))]) hc2 mlL_43 rfl rfl g3_ g4_ hF.2 ⟨g5_, g6_⟩ rfl (Nat.le_of_ble_eq_true rfl) (dk ddL_law_p6 38 rfl) ?_
  rintro v_ G_ I_ L_ ⟨rfl, hr2⟩
  exact y_icmp_eq C (tgt := 1772) (dk ddL_law_p6 39 rfl) (by decide) (fun _ => kt _ _ _ hr2) (fun h => absurd rfl h)
set_option maxRecDepth 20000 in
/-- arm 7 -/
theorem law_arm_7 {p : Program} {l : Launch} {e : Env} {R : Room} {s : State} {m : MethodId} {args : Array Value} {below : List Frame} {meth : Method} {c : Code} {b0 : Nat} {nm : String} {ret : Option FieldType} {D : va_G} {T : Nat → ClassId} {o c0 u0 : Nat} {Q : State → Prop} {G : ax_G} {I : ax_I} {L : ax_L} {Rel : ax_G → ax_I → ax_L → Prop} {a1 a2 d Ls i : Nat} {xs : Nat → Int32}
    (C : ax_C p s m args meth c cL_law 4 RL nm ret D T o c0) (hX : va_X b0 Ls xs s s.heap) (hbl : b0 < s.heap.size) (hbo : b0 < o) (hi : i + 7 ≤ Ls) (hL : Ls < 2 ^ 31) (hF : ay_Rm Rel a1 a2 d c0 u0 R) (hr : Rel G I L)
    (hP : ay_PI l D T o d Rel a1 a2 yX10_same cX10_same 3 (some .int) yX11_same cX11_same 6 (some .int) [.int (xs (i + 1)), .int (xs (i + 2))])
    (kt : ∀ G I L, Rel G I L → ax_Y b0 p l e R s m args below meth c 4 D T o c0 u0 Q G I L 1772 [(3, .int (nI i)), (2, .ref a2), (1, .ref a1)] []) : ax_Y b0 p l e R s m args below meth c 4 D T o c0 u0 Q G I L 502 [(3, .int (nI i)), (2, .ref a2), (1, .ref a1)] [] := by
  obtain ⟨v, hc⟩ := hP G I L hr
  obtain ⟨g1_, g2_, g3_, g4_, -, -, g5_, g6_⟩ := hF.1 G I L hr
  refine y_aload_n C (dk ddL_law_p7 2 rfl) rfl ?_
  refine y_sld C (i := i) (k := 1) hX hbl hbo (dk ddL_law_p7 3 rfl) (dk ddL_law_p7 4 rfl) (dk ddL_law_p7 5 rfl) (dk ddL_law_p7 6 rfl) (dk ddL_law_p7 7 rfl) rfl (by first | rfl | decide) (by omega) hL ?_
  refine y_sld C (i := i) (k := 2) hX hbl hbo (dk ddL_law_p7 8 rfl) (dk ddL_law_p7 9 rfl) (dk ddL_law_p7 10 rfl) (dk ddL_law_p7 11 rfl) (dk ddL_law_p7 12 rfl) rfl (by first | rfl | decide) (by omega) hL ?_
  refine y_callV C (ci := 10) (As := [.int (xs (i + 1)), .int (xs (i + 2))]) hc mlL_44 rfl rfl g1_ g2_ hF.2 ⟨g5_, g6_⟩ rfl (Nat.le_of_ble_eq_true rfl) (dk ddL_law_p7 13 rfl) ?_
  rintro v_ G_ I_ L_ ⟨rfl, rfl, hc2⟩
  refine y_aload_n C (dk ddL_law_p7 14 rfl) rfl ?_
  refine y_sld C (i := i) (k := 1) hX hbl hbo (dk ddL_law_p7 15 rfl) (dk ddL_law_p7 16 rfl) (dk ddL_law_p7 17 rfl) (dk ddL_law_p7 18 rfl) (dk ddL_law_p7 19 rfl) rfl (by first | rfl | decide) (by omega) hL ?_
  refine y_sld C (i := i) (k := 2) hX hbl hbo (dk ddL_law_p7 20 rfl) (dk ddL_law_p7 21 rfl) (dk ddL_law_p7 22 rfl) (dk ddL_law_p7 23 rfl) (dk ddL_law_p7 24 rfl) rfl (by first | rfl | decide) (by omega) hL ?_
  refine y_callV C (ci := 11) (As := [.int (xs (i + 1)), .int (xs (i + 2))]) hc2 mlL_47 rfl rfl g3_ g4_ hF.2 ⟨g5_, g6_⟩ rfl (Nat.le_of_ble_eq_true rfl) (dk ddL_law_p7 25 rfl) ?_
  rintro v_ G_ I_ L_ ⟨rfl, hr2⟩
  exact y_icmp_eq C (tgt := 1772) (dk ddL_law_p7 26 rfl) (by decide) (fun _ => kt _ _ _ hr2) (fun h => absurd rfl h)
set_option maxRecDepth 20000 in
/-- arm 8 -/
theorem law_arm_8 {p : Program} {l : Launch} {e : Env} {R : Room} {s : State} {m : MethodId} {args : Array Value} {below : List Frame} {meth : Method} {c : Code} {b0 : Nat} {nm : String} {ret : Option FieldType} {D : va_G} {T : Nat → ClassId} {o c0 u0 : Nat} {Q : State → Prop} {G : ax_G} {I : ax_I} {L : ax_L} {Rel : ax_G → ax_I → ax_L → Prop} {a1 a2 d Ls i : Nat} {xs : Nat → Int32}
    (C : ax_C p s m args meth c cL_law 4 RL nm ret D T o c0) (hX : va_X b0 Ls xs s s.heap) (hbl : b0 < s.heap.size) (hbo : b0 < o) (hi : i + 7 ≤ Ls) (hL : Ls < 2 ^ 31) (hF : ay_Rm Rel a1 a2 d c0 u0 R) (hr : Rel G I L)
    (hP : ay_PI l D T o d Rel a1 a2 yX10_ofTwo cX10_ofTwo 5 (some .int) yX11_ofTwo cX11_ofTwo 5 (some .int) [.int (xs (i + 1)), .int (xs (i + 2)), .int (xs (i + 3)), .int (xs (i + 4))])
    (kt : ∀ G I L, Rel G I L → ax_Y b0 p l e R s m args below meth c 4 D T o c0 u0 Q G I L 1772 [(3, .int (nI i)), (2, .ref a2), (1, .ref a1)] []) : ax_Y b0 p l e R s m args below meth c 4 D T o c0 u0 Q G I L 535 [(3, .int (nI i)), (2, .ref a2), (1, .ref a1)] [] := by
  obtain ⟨v, hc⟩ := hP G I L hr
  obtain ⟨g1_, g2_, g3_, g4_, -, -, g5_, g6_⟩ := hF.1 G I L hr
  refine y_aload_n C (dk ddL_law_p7 29 rfl) rfl ?_
  refine y_sld C (i := i) (k := 1) hX hbl hbo (dk ddL_law_p7 30 rfl) (dk ddL_law_p7 31 rfl) (dk ddL_law_p7 32 rfl) (dk ddL_law_p7 33 rfl) (dk ddL_law_p7 34 rfl) rfl (by first | rfl | decide) (by omega) hL ?_
  refine y_sld C (i := i) (k := 2) hX hbl hbo (dk ddL_law_p7 35 rfl) (dk ddL_law_p7 36 rfl) (dk ddL_law_p7 37 rfl) (dk ddL_law_p7 38 rfl) (dk ddL_law_p7 39 rfl) rfl (by first | rfl | decide) (by omega) hL ?_
  refine y_sld C (i := i) (k := 3) hX hbl hbo (dk ddL_law_p8 0 rfl) (dk ddL_law_p8 1 rfl) (dk ddL_law_p8 2 rfl) (dk ddL_law_p8 3 rfl) (dk ddL_law_p8 4 rfl) rfl (by first | rfl | decide) (by omega) hL ?_
  refine y_sld C (i := i) (k := 4) hX hbl hbo (dk ddL_law_p8 5 rfl) (dk ddL_law_p8 6 rfl) (dk ddL_law_p8 7 rfl) (dk ddL_law_p8 8 rfl) (dk ddL_law_p8 9 rfl) rfl (by first | rfl | decide) (by omega) hL ?_
  refine y_callV C (ci := 10) (As := [.int (xs (i + 1)), .int (xs (i + 2)), .int (xs (i + 3)), .int (xs (i + 4))]) hc mlL_48 rfl rfl g1_ g2_ hF.2 ⟨g5_, g6_⟩ rfl (Nat.le_of_ble_eq_true rfl) (dk ddL_law_p8 10 rfl) ?_
  rintro v_ G_ I_ L_ ⟨rfl, rfl, hc2⟩
  refine y_aload_n C (dk ddL_law_p8 11 rfl) rfl ?_
  refine y_sld C (i := i) (k := 1) hX hbl hbo (dk ddL_law_p8 12 rfl) (dk ddL_law_p8 13 rfl) (dk ddL_law_p8 14 rfl) (dk ddL_law_p8 15 rfl) (dk ddL_law_p8 16 rfl) rfl (by first | rfl | decide) (by omega) hL ?_
  refine y_sld C (i := i) (k := 2) hX hbl hbo (dk ddL_law_p8 17 rfl) (dk ddL_law_p8 18 rfl) (dk ddL_law_p8 19 rfl) (dk ddL_law_p8 20 rfl) (dk ddL_law_p8 21 rfl) rfl (by first | rfl | decide) (by omega) hL ?_
  refine y_sld C (i := i) (k := 3) hX hbl hbo (dk ddL_law_p8 22 rfl) (dk ddL_law_p8 23 rfl) (dk ddL_law_p8 24 rfl) (dk ddL_law_p8 25 rfl) (dk ddL_law_p8 26 rfl) rfl (by first | rfl | decide) (by omega) hL ?_
  refine y_sld C (i := i) (k := 4) hX hbl hbo (dk ddL_law_p8 27 rfl) (dk ddL_law_p8 28 rfl) (dk ddL_law_p8 29 rfl) (dk ddL_law_p8 30 rfl) (dk ddL_law_p8 31 rfl) rfl (by first | rfl | decide) (by omega) hL ?_
  refine y_callV C (ci := 11) (As := [.int (xs (i + 1)), .int (xs (i + 2)), .int (xs (i + 3)), .int (xs (i + 4))]) hc2 mlL_51 rfl rfl g3_ g4_ hF.2 ⟨g5_, g6_⟩ rfl (Nat.le_of_ble_eq_true rfl) (dk ddL_law_p8 32 rfl) ?_
  rintro v_ G_ I_ L_ ⟨rfl, hr2⟩
  exact y_icmp_eq C (tgt := 1772) (dk ddL_law_p8 33 rfl) (by decide) (fun _ => kt _ _ _ hr2) (fun h => absurd rfl h)
set_option maxRecDepth 20000 in
/-- arm 9 -/
theorem law_arm_9 {p : Program} {l : Launch} {e : Env} {R : Room} {s : State} {m : MethodId} {args : Array Value} {below : List Frame} {meth : Method} {c : Code} {b0 : Nat} {nm : String} {ret : Option FieldType} {D : va_G} {T : Nat → ClassId} {o c0 u0 : Nat} {Q : State → Prop} {G : ax_G} {I : ax_I} {L : ax_L} {Rel : ax_G → ax_I → ax_L → Prop} {a1 a2 d Ls i : Nat} {xs : Nat → Int32}
    (C : ax_C p s m args meth c cL_law 4 RL nm ret D T o c0) (hX : va_X b0 Ls xs s s.heap) (hbl : b0 < s.heap.size) (hbo : b0 < o) (hi : i + 7 ≤ Ls) (hL : Ls < 2 ^ 31) (hF : ay_Rm Rel a1 a2 d c0 u0 R) (hr : Rel G I L)
    (hP : ay_PI l D T o d Rel a1 a2 yX10_span cX10_span 9 (some .int) yX11_span cX11_span 8 (some .int) [.int (xs (i + 1)), .int (xs (i + 2)), .int (xs (i + 3)), .int (xs (i + 4))])
    (kt : ∀ G I L, Rel G I L → ax_Y b0 p l e R s m args below meth c 4 D T o c0 u0 Q G I L 1772 [(3, .int (nI i)), (2, .ref a2), (1, .ref a1)] []) : ax_Y b0 p l e R s m args below meth c 4 D T o c0 u0 Q G I L 588 [(3, .int (nI i)), (2, .ref a2), (1, .ref a1)] [] := by
  obtain ⟨v, hc⟩ := hP G I L hr
  obtain ⟨g1_, g2_, g3_, g4_, -, -, g5_, g6_⟩ := hF.1 G I L hr
  refine y_aload_n C (dk ddL_law_p8 36 rfl) rfl ?_
  refine y_sld C (i := i) (k := 1) hX hbl hbo (dk ddL_law_p8 37 rfl) (dk ddL_law_p8 38 rfl) (dk ddL_law_p8 39 rfl) (dk ddL_law_p9 0 rfl) (dk ddL_law_p9 1 rfl) rfl (by first | rfl | decide) (by omega) hL ?_
  refine y_sld C (i := i) (k := 2) hX hbl hbo (dk ddL_law_p9 2 rfl) (dk ddL_law_p9 3 rfl) (dk ddL_law_p9 4 rfl) (dk ddL_law_p9 5 rfl) (dk ddL_law_p9 6 rfl) rfl (by first | rfl | decide) (by omega) hL ?_
  refine y_sld C (i := i) (k := 3) hX hbl hbo (dk ddL_law_p9 7 rfl) (dk ddL_law_p9 8 rfl) (dk ddL_law_p9 9 rfl) (dk ddL_law_p9 10 rfl) (dk ddL_law_p9 11 rfl) rfl (by first | rfl | decide) (by omega) hL ?_
  refine y_sld C (i := i) (k := 4) hX hbl hbo (dk ddL_law_p9 12 rfl) (dk ddL_law_p9 13 rfl) (dk ddL_law_p9 14 rfl) (dk ddL_law_p9 15 rfl) (dk ddL_law_p9 16 rfl) rfl (by first | rfl | decide) (by omega) hL ?_
  refine y_callV C (ci := 10) (As := [.int (xs (i + 1)), .int (xs (i + 2)), .int (xs (i + 3)), .int (xs (i + 4))]) hc mlL_52 rfl rfl g1_ g2_ hF.2 ⟨g5_, g6_⟩ rfl (Nat.le_of_ble_eq_true rfl) (dk ddL_law_p9 17 rfl) ?_
  rintro v_ G_ I_ L_ ⟨rfl, rfl, hc2⟩
  refine y_aload_n C (dk ddL_law_p9 18 rfl) rfl ?_
  refine y_sld C (i := i) (k := 1) hX hbl hbo (dk ddL_law_p9 19 rfl) (dk ddL_law_p9 20 rfl) (dk ddL_law_p9 21 rfl) (dk ddL_law_p9 22 rfl) (dk ddL_law_p9 23 rfl) rfl (by first | rfl | decide) (by omega) hL ?_
  refine y_sld C (i := i) (k := 2) hX hbl hbo (dk ddL_law_p9 24 rfl) (dk ddL_law_p9 25 rfl) (dk ddL_law_p9 26 rfl) (dk ddL_law_p9 27 rfl) (dk ddL_law_p9 28 rfl) rfl (by first | rfl | decide) (by omega) hL ?_
  refine y_sld C (i := i) (k := 3) hX hbl hbo (dk ddL_law_p9 29 rfl) (dk ddL_law_p9 30 rfl) (dk ddL_law_p9 31 rfl) (dk ddL_law_p9 32 rfl) (dk ddL_law_p9 33 rfl) rfl (by first | rfl | decide) (by omega) hL ?_
  refine y_sld C (i := i) (k := 4) hX hbl hbo (dk ddL_law_p9 34 rfl) (dk ddL_law_p9 35 rfl) (dk ddL_law_p9 36 rfl) (dk ddL_law_p9 37 rfl) (dk ddL_law_p9 38 rfl) rfl (by first | rfl | decide) (by omega) hL ?_
  refine y_callV C (ci := 11) (As := [.int (xs (i + 1)), .int (xs (i + 2)), .int (xs (i + 3)), .int (xs (i + 4))]) hc2 mlL_55 rfl rfl g3_ g4_ hF.2 ⟨g5_, g6_⟩ rfl (Nat.le_of_ble_eq_true rfl) (dk ddL_law_p9 39 rfl) ?_
  rintro v_ G_ I_ L_ ⟨rfl, hr2⟩
  exact y_icmp_eq C (tgt := 1772) (dk ddL_law_p10 0 rfl) (by decide) (fun _ => kt _ _ _ hr2) (fun h => absurd rfl h)
set_option maxRecDepth 20000 in
/-- arm 10 -/
theorem law_arm_10 {p : Program} {l : Launch} {e : Env} {R : Room} {s : State} {m : MethodId} {args : Array Value} {below : List Frame} {meth : Method} {c : Code} {b0 : Nat} {nm : String} {ret : Option FieldType} {D : va_G} {T : Nat → ClassId} {o c0 u0 : Nat} {Q : State → Prop} {G : ax_G} {I : ax_I} {L : ax_L} {Rel : ax_G → ax_I → ax_L → Prop} {a1 a2 d Ls i : Nat} {xs : Nat → Int32}
    (C : ax_C p s m args meth c cL_law 4 RL nm ret D T o c0) (hX : va_X b0 Ls xs s s.heap) (hbl : b0 < s.heap.size) (hbo : b0 < o) (hi : i + 7 ≤ Ls) (hL : Ls < 2 ^ 31) (hF : ay_Rm Rel a1 a2 d c0 u0 R) (hr : Rel G I L)
    (hP : ay_PI l D T o d Rel a1 a2 yX10_map cX10_map 4 (some .int) yX11_map cX11_map 5 (some .int) [.int (xs (i + 1)), .int (xs (i + 2)), .int (xs (i + 3))])
    (kt : ∀ G I L, Rel G I L → ax_Y b0 p l e R s m args below meth c 4 D T o c0 u0 Q G I L 1772 [(3, .int (nI i)), (2, .ref a2), (1, .ref a1)] []) : ax_Y b0 p l e R s m args below meth c 4 D T o c0 u0 Q G I L 641 [(3, .int (nI i)), (2, .ref a2), (1, .ref a1)] [] := by
  obtain ⟨v, hc⟩ := hP G I L hr
  obtain ⟨g1_, g2_, g3_, g4_, -, -, g5_, g6_⟩ := hF.1 G I L hr
  refine y_aload_n C (dk ddL_law_p10 3 rfl) rfl ?_
  refine y_sld C (i := i) (k := 1) hX hbl hbo (dk ddL_law_p10 4 rfl) (dk ddL_law_p10 5 rfl) (dk ddL_law_p10 6 rfl) (dk ddL_law_p10 7 rfl) (dk ddL_law_p10 8 rfl) rfl (by first | rfl | decide) (by omega) hL ?_
  refine y_sld C (i := i) (k := 2) hX hbl hbo (dk ddL_law_p10 9 rfl) (dk ddL_law_p10 10 rfl) (dk ddL_law_p10 11 rfl) (dk ddL_law_p10 12 rfl) (dk ddL_law_p10 13 rfl) rfl (by first | rfl | decide) (by omega) hL ?_
  refine y_sld C (i := i) (k := 3) hX hbl hbo (dk ddL_law_p10 14 rfl) (dk ddL_law_p10 15 rfl) (dk ddL_law_p10 16 rfl) (dk ddL_law_p10 17 rfl) (dk ddL_law_p10 18 rfl) rfl (by first | rfl | decide) (by omega) hL ?_
  refine y_callV C (ci := 10) (As := [.int (xs (i + 1)), .int (xs (i + 2)), .int (xs (i + 3))]) hc mlL_56 rfl rfl g1_ g2_ hF.2 ⟨g5_, g6_⟩ rfl (Nat.le_of_ble_eq_true rfl) (dk ddL_law_p10 19 rfl) ?_
  rintro v_ G_ I_ L_ ⟨rfl, rfl, hc2⟩
  refine y_aload_n C (dk ddL_law_p10 20 rfl) rfl ?_
  refine y_sld C (i := i) (k := 1) hX hbl hbo (dk ddL_law_p10 21 rfl) (dk ddL_law_p10 22 rfl) (dk ddL_law_p10 23 rfl) (dk ddL_law_p10 24 rfl) (dk ddL_law_p10 25 rfl) rfl (by first | rfl | decide) (by omega) hL ?_
  refine y_sld C (i := i) (k := 2) hX hbl hbo (dk ddL_law_p10 26 rfl) (dk ddL_law_p10 27 rfl) (dk ddL_law_p10 28 rfl) (dk ddL_law_p10 29 rfl) (dk ddL_law_p10 30 rfl) rfl (by first | rfl | decide) (by omega) hL ?_
  refine y_sld C (i := i) (k := 3) hX hbl hbo (dk ddL_law_p10 31 rfl) (dk ddL_law_p10 32 rfl) (dk ddL_law_p10 33 rfl) (dk ddL_law_p10 34 rfl) (dk ddL_law_p10 35 rfl) rfl (by first | rfl | decide) (by omega) hL ?_
  refine y_callV C (ci := 11) (As := [.int (xs (i + 1)), .int (xs (i + 2)), .int (xs (i + 3))]) hc2 mlL_60 rfl rfl g3_ g4_ hF.2 ⟨g5_, g6_⟩ rfl (Nat.le_of_ble_eq_true rfl) (dk ddL_law_p10 36 rfl) ?_
  rintro v_ G_ I_ L_ ⟨rfl, hr2⟩
  exact y_icmp_eq C (tgt := 1772) (dk ddL_law_p10 37 rfl) (by decide) (fun _ => kt _ _ _ hr2) (fun h => absurd rfl h)
set_option maxRecDepth 20000 in
/-- arm 11 -/
theorem law_arm_11 {p : Program} {l : Launch} {e : Env} {R : Room} {s : State} {m : MethodId} {args : Array Value} {below : List Frame} {meth : Method} {c : Code} {b0 : Nat} {nm : String} {ret : Option FieldType} {D : va_G} {T : Nat → ClassId} {o c0 u0 : Nat} {Q : State → Prop} {G : ax_G} {I : ax_I} {L : ax_L} {Rel : ax_G → ax_I → ax_L → Prop} {a1 a2 d Ls i : Nat} {xs : Nat → Int32}
    (C : ax_C p s m args meth c cL_law 4 RL nm ret D T o c0) (hX : va_X b0 Ls xs s s.heap) (hbl : b0 < s.heap.size) (hbo : b0 < o) (hi : i + 7 ≤ Ls) (hL : Ls < 2 ^ 31) (hF : ay_Rm Rel a1 a2 d c0 u0 R) (hr : Rel G I L)
    (hP : ay_PI l D T o d Rel a1 a2 yX10_entry cX10_entry 7 (some .int) yX11_entry cX11_entry 6 (some .int) [.int (xs (i + 1)), .int (xs (i + 2)), .int (xs (i + 3)), .int (xs (i + 4))])
    (kt : ∀ G I L, Rel G I L → ax_Y b0 p l e R s m args below meth c 4 D T o c0 u0 Q G I L 1772 [(3, .int (nI i)), (2, .ref a2), (1, .ref a1)] []) : ax_Y b0 p l e R s m args below meth c 4 D T o c0 u0 Q G I L 684 [(3, .int (nI i)), (2, .ref a2), (1, .ref a1)] [] := by
  obtain ⟨v, hc⟩ := hP G I L hr
  obtain ⟨g1_, g2_, g3_, g4_, -, -, g5_, g6_⟩ := hF.1 G I L hr
  refine y_aload_n C (dk ddL_law_p11 0 rfl) rfl ?_
  refine y_sld C (i := i) (k := 1) hX hbl hbo (dk ddL_law_p11 1 rfl) (dk ddL_law_p11 2 rfl) (dk ddL_law_p11 3 rfl) (dk ddL_law_p11 4 rfl) (dk ddL_law_p11 5 rfl) rfl (by first | rfl | decide) (by omega) hL ?_
  refine y_sld C (i := i) (k := 2) hX hbl hbo (dk ddL_law_p11 6 rfl) (dk ddL_law_p11 7 rfl) (dk ddL_law_p11 8 rfl) (dk ddL_law_p11 9 rfl) (dk ddL_law_p11 10 rfl) rfl (by first | rfl | decide) (by omega) hL ?_
  refine y_sld C (i := i) (k := 3) hX hbl hbo (dk ddL_law_p11 11 rfl) (dk ddL_law_p11 12 rfl) (dk ddL_law_p11 13 rfl) (dk ddL_law_p11 14 rfl) (dk ddL_law_p11 15 rfl) rfl (by first | rfl | decide) (by omega) hL ?_
  refine y_sld C (i := i) (k := 4) hX hbl hbo (dk ddL_law_p11 16 rfl) (dk ddL_law_p11 17 rfl) (dk ddL_law_p11 18 rfl) (dk ddL_law_p11 19 rfl) (dk ddL_law_p11 20 rfl) rfl (by first | rfl | decide) (by omega) hL ?_
  refine y_callV C (ci := 10) (As := [.int (xs (i + 1)), .int (xs (i + 2)), .int (xs (i + 3)), .int (xs (i + 4))]) hc mlL_61 rfl rfl g1_ g2_ hF.2 ⟨g5_, g6_⟩ rfl (Nat.le_of_ble_eq_true rfl) (dk ddL_law_p11 21 rfl) ?_
  rintro v_ G_ I_ L_ ⟨rfl, rfl, hc2⟩
  refine y_aload_n C (dk ddL_law_p11 22 rfl) rfl ?_
  refine y_sld C (i := i) (k := 1) hX hbl hbo (dk ddL_law_p11 23 rfl) (dk ddL_law_p11 24 rfl) (dk ddL_law_p11 25 rfl) (dk ddL_law_p11 26 rfl) (dk ddL_law_p11 27 rfl) rfl (by first | rfl | decide) (by omega) hL ?_
  refine y_sld C (i := i) (k := 2) hX hbl hbo (dk ddL_law_p11 28 rfl) (dk ddL_law_p11 29 rfl) (dk ddL_law_p11 30 rfl) (dk ddL_law_p11 31 rfl) (dk ddL_law_p11 32 rfl) rfl (by first | rfl | decide) (by omega) hL ?_
  refine y_sld C (i := i) (k := 3) hX hbl hbo (dk ddL_law_p11 33 rfl) (dk ddL_law_p11 34 rfl) (dk ddL_law_p11 35 rfl) (dk ddL_law_p11 36 rfl) (dk ddL_law_p11 37 rfl) rfl (by first | rfl | decide) (by omega) hL ?_
  refine y_sld C (i := i) (k := 4) hX hbl hbo (dk ddL_law_p11 38 rfl) (dk ddL_law_p11 39 rfl) (dk ddL_law_p12 0 rfl) (dk ddL_law_p12 1 rfl) (dk ddL_law_p12 2 rfl) rfl (by first | rfl | decide) (by omega) hL ?_
  refine y_callV C (ci := 11) (As := [.int (xs (i + 1)), .int (xs (i + 2)), .int (xs (i + 3)), .int (xs (i + 4))]) hc2 mlL_64 rfl rfl g3_ g4_ hF.2 ⟨g5_, g6_⟩ rfl (Nat.le_of_ble_eq_true rfl) (dk ddL_law_p12 3 rfl) ?_
  rintro v_ G_ I_ L_ ⟨rfl, hr2⟩
  exact y_icmp_eq C (tgt := 1772) (dk ddL_law_p12 4 rfl) (by decide) (fun _ => kt _ _ _ hr2) (fun h => absurd rfl h)
set_option maxRecDepth 20000 in
/-- arm 12 -/
theorem law_arm_12 {p : Program} {l : Launch} {e : Env} {R : Room} {s : State} {m : MethodId} {args : Array Value} {below : List Frame} {meth : Method} {c : Code} {b0 : Nat} {nm : String} {ret : Option FieldType} {D : va_G} {T : Nat → ClassId} {o c0 u0 : Nat} {Q : State → Prop} {G : ax_G} {I : ax_I} {L : ax_L} {Rel : ax_G → ax_I → ax_L → Prop} {a1 a2 d Ls i : Nat} {xs : Nat → Int32}
    (C : ax_C p s m args meth c cL_law 4 RL nm ret D T o c0) (hX : va_X b0 Ls xs s s.heap) (hbl : b0 < s.heap.size) (hbo : b0 < o) (hi : i + 7 ≤ Ls) (hL : Ls < 2 ^ 31) (hF : ay_Rm Rel a1 a2 d c0 u0 R) (hr : Rel G I L)
    (hP : ay_PI l D T o d Rel a1 a2 yX10_at cX10_at 4 (some .int) yX11_at cX11_at 4 (some .int) [.int (xs (i + 1)), .int (xs (i + 2)), .int (xs (i + 3))])
    (kt : ∀ G I L, Rel G I L → ax_Y b0 p l e R s m args below meth c 4 D T o c0 u0 Q G I L 1772 [(3, .int (nI i)), (2, .ref a2), (1, .ref a1)] []) : ax_Y b0 p l e R s m args below meth c 4 D T o c0 u0 Q G I L 737 [(3, .int (nI i)), (2, .ref a2), (1, .ref a1)] [] := by
  obtain ⟨v, hc⟩ := hP G I L hr
  obtain ⟨g1_, g2_, g3_, g4_, -, -, g5_, g6_⟩ := hF.1 G I L hr
  refine y_aload_n C (dk ddL_law_p12 7 rfl) rfl ?_
  refine y_sld C (i := i) (k := 1) hX hbl hbo (dk ddL_law_p12 8 rfl) (dk ddL_law_p12 9 rfl) (dk ddL_law_p12 10 rfl) (dk ddL_law_p12 11 rfl) (dk ddL_law_p12 12 rfl) rfl (by first | rfl | decide) (by omega) hL ?_
  refine y_sld C (i := i) (k := 2) hX hbl hbo (dk ddL_law_p12 13 rfl) (dk ddL_law_p12 14 rfl) (dk ddL_law_p12 15 rfl) (dk ddL_law_p12 16 rfl) (dk ddL_law_p12 17 rfl) rfl (by first | rfl | decide) (by omega) hL ?_
  refine y_sld C (i := i) (k := 3) hX hbl hbo (dk ddL_law_p12 18 rfl) (dk ddL_law_p12 19 rfl) (dk ddL_law_p12 20 rfl) (dk ddL_law_p12 21 rfl) (dk ddL_law_p12 22 rfl) rfl (by first | rfl | decide) (by omega) hL ?_
  refine y_callV C (ci := 10) (As := [.int (xs (i + 1)), .int (xs (i + 2)), .int (xs (i + 3))]) hc mlL_65 rfl rfl g1_ g2_ hF.2 ⟨g5_, g6_⟩ rfl (Nat.le_of_ble_eq_true rfl) (dk ddL_law_p12 23 rfl) ?_
  rintro v_ G_ I_ L_ ⟨rfl, rfl, hc2⟩
  refine y_aload_n C (dk ddL_law_p12 24 rfl) rfl ?_
  refine y_sld C (i := i) (k := 1) hX hbl hbo (dk ddL_law_p12 25 rfl) (dk ddL_law_p12 26 rfl) (dk ddL_law_p12 27 rfl) (dk ddL_law_p12 28 rfl) (dk ddL_law_p12 29 rfl) rfl (by first | rfl | decide) (by omega) hL ?_
  refine y_sld C (i := i) (k := 2) hX hbl hbo (dk ddL_law_p12 30 rfl) (dk ddL_law_p12 31 rfl) (dk ddL_law_p12 32 rfl) (dk ddL_law_p12 33 rfl) (dk ddL_law_p12 34 rfl) rfl (by first | rfl | decide) (by omega) hL ?_
  refine y_sld C (i := i) (k := 3) hX hbl hbo (dk ddL_law_p12 35 rfl) (dk ddL_law_p12 36 rfl) (dk ddL_law_p12 37 rfl) (dk ddL_law_p12 38 rfl) (dk ddL_law_p12 39 rfl) rfl (by first | rfl | decide) (by omega) hL ?_
  refine y_callV C (ci := 11) (As := [.int (xs (i + 1)), .int (xs (i + 2)), .int (xs (i + 3))]) hc2 mlL_68 rfl rfl g3_ g4_ hF.2 ⟨g5_, g6_⟩ rfl (Nat.le_of_ble_eq_true rfl) (dk ddL_law_p13 0 rfl) ?_
  rintro v_ G_ I_ L_ ⟨rfl, hr2⟩
  exact y_icmp_eq C (tgt := 1772) (dk ddL_law_p13 1 rfl) (by decide) (fun _ => kt _ _ _ hr2) (fun h => absurd rfl h)
set_option maxRecDepth 20000 in
/-- arm 13 -/
theorem law_arm_13 {p : Program} {l : Launch} {e : Env} {R : Room} {s : State} {m : MethodId} {args : Array Value} {below : List Frame} {meth : Method} {c : Code} {b0 : Nat} {nm : String} {ret : Option FieldType} {D : va_G} {T : Nat → ClassId} {o c0 u0 : Nat} {Q : State → Prop} {G : ax_G} {I : ax_I} {L : ax_L} {Rel : ax_G → ax_I → ax_L → Prop} {a1 a2 d Ls i : Nat} {xs : Nat → Int32}
    (C : ax_C p s m args meth c cL_law 4 RL nm ret D T o c0) (hX : va_X b0 Ls xs s s.heap) (hbl : b0 < s.heap.size) (hbo : b0 < o) (hi : i + 7 ≤ Ls) (hL : Ls < 2 ^ 31) (hF : ay_Rm Rel a1 a2 d c0 u0 R) (hr : Rel G I L)
    (hP : ay_PI l D T o d Rel a1 a2 yX10_mapIs cX10_mapIs 5 (some .int) yX11_mapIs cX11_mapIs 4 (some .int) [.int (xs (i + 1)), .int (xs (i + 2))])
    (kt : ∀ G I L, Rel G I L → ax_Y b0 p l e R s m args below meth c 4 D T o c0 u0 Q G I L 1772 [(3, .int (nI i)), (2, .ref a2), (1, .ref a1)] []) : ax_Y b0 p l e R s m args below meth c 4 D T o c0 u0 Q G I L 780 [(3, .int (nI i)), (2, .ref a2), (1, .ref a1)] [] := by
  obtain ⟨v, hc⟩ := hP G I L hr
  obtain ⟨g1_, g2_, g3_, g4_, -, -, g5_, g6_⟩ := hF.1 G I L hr
  refine y_aload_n C (dk ddL_law_p13 4 rfl) rfl ?_
  refine y_sld C (i := i) (k := 1) hX hbl hbo (dk ddL_law_p13 5 rfl) (dk ddL_law_p13 6 rfl) (dk ddL_law_p13 7 rfl) (dk ddL_law_p13 8 rfl) (dk ddL_law_p13 9 rfl) rfl (by first | rfl | decide) (by omega) hL ?_
  refine y_sld C (i := i) (k := 2) hX hbl hbo (dk ddL_law_p13 10 rfl) (dk ddL_law_p13 11 rfl) (dk ddL_law_p13 12 rfl) (dk ddL_law_p13 13 rfl) (dk ddL_law_p13 14 rfl) rfl (by first | rfl | decide) (by omega) hL ?_
  refine y_callV C (ci := 10) (As := [.int (xs (i + 1)), .int (xs (i + 2))]) hc mlL_69 rfl rfl g1_ g2_ hF.2 ⟨g5_, g6_⟩ rfl (Nat.le_of_ble_eq_true rfl) (dk ddL_law_p13 15 rfl) ?_
  rintro v_ G_ I_ L_ ⟨rfl, rfl, hc2⟩
  refine y_aload_n C (dk ddL_law_p13 16 rfl) rfl ?_
  refine y_sld C (i := i) (k := 1) hX hbl hbo (dk ddL_law_p13 17 rfl) (dk ddL_law_p13 18 rfl) (dk ddL_law_p13 19 rfl) (dk ddL_law_p13 20 rfl) (dk ddL_law_p13 21 rfl) rfl (by first | rfl | decide) (by omega) hL ?_
  refine y_sld C (i := i) (k := 2) hX hbl hbo (dk ddL_law_p13 22 rfl) (dk ddL_law_p13 23 rfl) (dk ddL_law_p13 24 rfl) (dk ddL_law_p13 25 rfl) (dk ddL_law_p13 26 rfl) rfl (by first | rfl | decide) (by omega) hL ?_
  refine y_callV C (ci := 11) (As := [.int (xs (i + 1)), .int (xs (i + 2))]) hc2 mlL_72 rfl rfl g3_ g4_ hF.2 ⟨g5_, g6_⟩ rfl (Nat.le_of_ble_eq_true rfl) (dk ddL_law_p13 27 rfl) ?_
  rintro v_ G_ I_ L_ ⟨rfl, hr2⟩
  exact y_icmp_eq C (tgt := 1772) (dk ddL_law_p13 28 rfl) (by decide) (fun _ => kt _ _ _ hr2) (fun h => absurd rfl h)
set_option maxRecDepth 20000 in
/-- arm 14 -/
theorem law_arm_14 {p : Program} {l : Launch} {e : Env} {R : Room} {s : State} {m : MethodId} {args : Array Value} {below : List Frame} {meth : Method} {c : Code} {b0 : Nat} {nm : String} {ret : Option FieldType} {D : va_G} {T : Nat → ClassId} {o c0 u0 : Nat} {Q : State → Prop} {G : ax_G} {I : ax_I} {L : ax_L} {Rel : ax_G → ax_I → ax_L → Prop} {a1 a2 d Ls i : Nat} {xs : Nat → Int32}
    (C : ax_C p s m args meth c cL_law 4 RL nm ret D T o c0) (hX : va_X b0 Ls xs s s.heap) (hbl : b0 < s.heap.size) (hbo : b0 < o) (hi : i + 7 ≤ Ls) (hL : Ls < 2 ^ 31) (hF : ay_Rm Rel a1 a2 d c0 u0 R) (hr : Rel G I L)
    (hP : ay_PJ l D T o d Rel a1 a2 yX10_image cX10_image 6 (some .long) yX11_image cX11_image 6 (some .long) [.int (xs (i + 1)), .int (xs (i + 2)), .int (xs (i + 3)), .int (xs (i + 4)), .int (xs (i + 5))])
    (kt : ∀ G I L, Rel G I L → ax_Y b0 p l e R s m args below meth c 4 D T o c0 u0 Q G I L 1772 [(3, .int (nI i)), (2, .ref a2), (1, .ref a1)] []) : ax_Y b0 p l e R s m args below meth c 4 D T o c0 u0 Q G I L 813 [(3, .int (nI i)), (2, .ref a2), (1, .ref a1)] [] := by
  obtain ⟨v, hc⟩ := hP G I L hr
  obtain ⟨g1_, g2_, g3_, g4_, -, -, g5_, g6_⟩ := hF.1 G I L hr
  refine y_aload_n C (dk ddL_law_p13 31 rfl) rfl ?_
  refine y_sld C (i := i) (k := 1) hX hbl hbo (dk ddL_law_p13 32 rfl) (dk ddL_law_p13 33 rfl) (dk ddL_law_p13 34 rfl) (dk ddL_law_p13 35 rfl) (dk ddL_law_p13 36 rfl) rfl (by first | rfl | decide) (by omega) hL ?_
  refine y_sld C (i := i) (k := 2) hX hbl hbo (dk ddL_law_p13 37 rfl) (dk ddL_law_p13 38 rfl) (dk ddL_law_p13 39 rfl) (dk ddL_law_p14 0 rfl) (dk ddL_law_p14 1 rfl) rfl (by first | rfl | decide) (by omega) hL ?_
  refine y_sld C (i := i) (k := 3) hX hbl hbo (dk ddL_law_p14 2 rfl) (dk ddL_law_p14 3 rfl) (dk ddL_law_p14 4 rfl) (dk ddL_law_p14 5 rfl) (dk ddL_law_p14 6 rfl) rfl (by first | rfl | decide) (by omega) hL ?_
  refine y_sld C (i := i) (k := 4) hX hbl hbo (dk ddL_law_p14 7 rfl) (dk ddL_law_p14 8 rfl) (dk ddL_law_p14 9 rfl) (dk ddL_law_p14 10 rfl) (dk ddL_law_p14 11 rfl) rfl (by first | rfl | decide) (by omega) hL ?_
  refine y_sld C (i := i) (k := 5) hX hbl hbo (dk ddL_law_p14 12 rfl) (dk ddL_law_p14 13 rfl) (dk ddL_law_p14 14 rfl) (dk ddL_law_p14 15 rfl) (dk ddL_law_p14 16 rfl) rfl (by first | rfl | decide) (by omega) hL ?_
  refine y_callV C (ci := 10) (As := [.int (xs (i + 1)), .int (xs (i + 2)), .int (xs (i + 3)), .int (xs (i + 4)), .int (xs (i + 5))]) hc mlL_73 rfl rfl g1_ g2_ hF.2 ⟨g5_, g6_⟩ rfl (Nat.le_of_ble_eq_true rfl) (dk ddL_law_p14 17 rfl) ?_
  rintro v_ G_ I_ L_ ⟨rfl, rfl, hc2⟩
  refine y_aload_n C (dk ddL_law_p14 18 rfl) rfl ?_
  refine y_sld C (i := i) (k := 1) hX hbl hbo (dk ddL_law_p14 19 rfl) (dk ddL_law_p14 20 rfl) (dk ddL_law_p14 21 rfl) (dk ddL_law_p14 22 rfl) (dk ddL_law_p14 23 rfl) rfl (by first | rfl | decide) (by omega) hL ?_
  refine y_sld C (i := i) (k := 2) hX hbl hbo (dk ddL_law_p14 24 rfl) (dk ddL_law_p14 25 rfl) (dk ddL_law_p14 26 rfl) (dk ddL_law_p14 27 rfl) (dk ddL_law_p14 28 rfl) rfl (by first | rfl | decide) (by omega) hL ?_
  refine y_sld C (i := i) (k := 3) hX hbl hbo (dk ddL_law_p14 29 rfl) (dk ddL_law_p14 30 rfl) (dk ddL_law_p14 31 rfl) (dk ddL_law_p14 32 rfl) (dk ddL_law_p14 33 rfl) rfl (by first | rfl | decide) (by omega) hL ?_
  refine y_sld C (i := i) (k := 4) hX hbl hbo (dk ddL_law_p14 34 rfl) (dk ddL_law_p14 35 rfl) (dk ddL_law_p14 36 rfl) (dk ddL_law_p14 37 rfl) (dk ddL_law_p14 38 rfl) rfl (by first | rfl | decide) (by omega) hL ?_
  refine y_sld C (i := i) (k := 5) hX hbl hbo (dk ddL_law_p14 39 rfl) (dk ddL_law_p15 0 rfl) (dk ddL_law_p15 1 rfl) (dk ddL_law_p15 2 rfl) (dk ddL_law_p15 3 rfl) rfl (by first | rfl | decide) (by omega) hL ?_
  refine y_callV C (ci := 11) (As := [.int (xs (i + 1)), .int (xs (i + 2)), .int (xs (i + 3)), .int (xs (i + 4)), .int (xs (i + 5))]) hc2 mlL_76 rfl rfl g3_ g4_ hF.2 ⟨g5_, g6_⟩ rfl (Nat.le_of_ble_eq_true rfl) (dk ddL_law_p15 4 rfl) ?_
  rintro v_ G_ I_ L_ ⟨rfl, hr2⟩
  exact y_lc_eq C (tgt := 1772) (dk ddL_law_p15 5 rfl) (dk ddL_law_p15 6 rfl) (by decide) (fun _ => kt _ _ _ hr2) (fun h => absurd rfl h)
set_option maxRecDepth 20000 in
/-- arm 15 -/
theorem law_arm_15 {p : Program} {l : Launch} {e : Env} {R : Room} {s : State} {m : MethodId} {args : Array Value} {below : List Frame} {meth : Method} {c : Code} {b0 : Nat} {nm : String} {ret : Option FieldType} {D : va_G} {T : Nat → ClassId} {o c0 u0 : Nat} {Q : State → Prop} {G : ax_G} {I : ax_I} {L : ax_L} {Rel : ax_G → ax_I → ax_L → Prop} {a1 a2 d Ls i : Nat} {xs : Nat → Int32}
    (C : ax_C p s m args meth c cL_law 4 RL nm ret D T o c0) (hX : va_X b0 Ls xs s s.heap) (hbl : b0 < s.heap.size) (hbo : b0 < o) (hi : i + 7 ≤ Ls) (hL : Ls < 2 ^ 31) (hF : ay_Rm Rel a1 a2 d c0 u0 R) (hr : Rel G I L)
    (hP : ay_PI l D T o d Rel a1 a2 yX10_part cX10_part 4 (some .int) yX11_part cX11_part 6 (some .int) [.int (xs (i + 1)), .int (xs (i + 2)), .int (xs (i + 3))])
    (kt : ∀ G I L, Rel G I L → ax_Y b0 p l e R s m args below meth c 4 D T o c0 u0 Q G I L 1772 [(3, .int (nI i)), (2, .ref a2), (1, .ref a1)] []) : ax_Y b0 p l e R s m args below meth c 4 D T o c0 u0 Q G I L 877 [(3, .int (nI i)), (2, .ref a2), (1, .ref a1)] [] := by
  obtain ⟨v, hc⟩ := hP G I L hr
  obtain ⟨g1_, g2_, g3_, g4_, -, -, g5_, g6_⟩ := hF.1 G I L hr
  refine y_aload_n C (dk ddL_law_p15 9 rfl) rfl ?_
  refine y_sld C (i := i) (k := 1) hX hbl hbo (dk ddL_law_p15 10 rfl) (dk ddL_law_p15 11 rfl) (dk ddL_law_p15 12 rfl) (dk ddL_law_p15 13 rfl) (dk ddL_law_p15 14 rfl) rfl (by first | rfl | decide) (by omega) hL ?_
  refine y_sld C (i := i) (k := 2) hX hbl hbo (dk ddL_law_p15 15 rfl) (dk ddL_law_p15 16 rfl) (dk ddL_law_p15 17 rfl) (dk ddL_law_p15 18 rfl) (dk ddL_law_p15 19 rfl) rfl (by first | rfl | decide) (by omega) hL ?_
  refine y_sld C (i := i) (k := 3) hX hbl hbo (dk ddL_law_p15 20 rfl) (dk ddL_law_p15 21 rfl) (dk ddL_law_p15 22 rfl) (dk ddL_law_p15 23 rfl) (dk ddL_law_p15 24 rfl) rfl (by first | rfl | decide) (by omega) hL ?_
  refine y_callV C (ci := 10) (As := [.int (xs (i + 1)), .int (xs (i + 2)), .int (xs (i + 3))]) hc mlL_77 rfl rfl g1_ g2_ hF.2 ⟨g5_, g6_⟩ rfl (Nat.le_of_ble_eq_true rfl) (dk ddL_law_p15 25 rfl) ?_
  rintro v_ G_ I_ L_ ⟨rfl, rfl, hc2⟩
  refine y_aload_n C (dk ddL_law_p15 26 rfl) rfl ?_
  refine y_sld C (i := i) (k := 1) hX hbl hbo (dk ddL_law_p15 27 rfl) (dk ddL_law_p15 28 rfl) (dk ddL_law_p15 29 rfl) (dk ddL_law_p15 30 rfl) (dk ddL_law_p15 31 rfl) rfl (by first | rfl | decide) (by omega) hL ?_
  refine y_sld C (i := i) (k := 2) hX hbl hbo (dk ddL_law_p15 32 rfl) (dk ddL_law_p15 33 rfl) (dk ddL_law_p15 34 rfl) (dk ddL_law_p15 35 rfl) (dk ddL_law_p15 36 rfl) rfl (by first | rfl | decide) (by omega) hL ?_
  refine y_sld C (i := i) (k := 3) hX hbl hbo (dk ddL_law_p15 37 rfl) (dk ddL_law_p15 38 rfl) (dk ddL_law_p15 39 rfl) (dk ddL_law_p16 0 rfl) (dk ddL_law_p16 1 rfl) rfl (by first | rfl | decide) (by omega) hL ?_
  refine y_callV C (ci := 11) (As := [.int (xs (i + 1)), .int (xs (i + 2)), .int (xs (i + 3))]) hc2 mlL_80 rfl rfl g3_ g4_ hF.2 ⟨g5_, g6_⟩ rfl (Nat.le_of_ble_eq_true rfl) (dk ddL_law_p16 2 rfl) ?_
  rintro v_ G_ I_ L_ ⟨rfl, hr2⟩
  exact y_icmp_eq C (tgt := 1772) (dk ddL_law_p16 3 rfl) (by decide) (fun _ => kt _ _ _ hr2) (fun h => absurd rfl h)
set_option maxRecDepth 20000 in
/-- arm 16 -/
theorem law_arm_16 {p : Program} {l : Launch} {e : Env} {R : Room} {s : State} {m : MethodId} {args : Array Value} {below : List Frame} {meth : Method} {c : Code} {b0 : Nat} {nm : String} {ret : Option FieldType} {D : va_G} {T : Nat → ClassId} {o c0 u0 : Nat} {Q : State → Prop} {G : ax_G} {I : ax_I} {L : ax_L} {Rel : ax_G → ax_I → ax_L → Prop} {a1 a2 d Ls i : Nat} {xs : Nat → Int32}
    (C : ax_C p s m args meth c cL_law 4 RL nm ret D T o c0) (hX : va_X b0 Ls xs s s.heap) (hbl : b0 < s.heap.size) (hbo : b0 < o) (hi : i + 7 ≤ Ls) (hL : Ls < 2 ^ 31) (hF : ay_Rm Rel a1 a2 d c0 u0 R) (hr : Rel G I L)
    (hP : ay_PJ l D T o d Rel a1 a2 yX10_whence cX10_whence 6 (some .long) yX11_whence cX11_whence 6 (some .long) [.int (xs (i + 1)), .int (xs (i + 2)), .int (xs (i + 3)), .int (xs (i + 4)), .int (xs (i + 5))])
    (kt : ∀ G I L, Rel G I L → ax_Y b0 p l e R s m args below meth c 4 D T o c0 u0 Q G I L 1772 [(3, .int (nI i)), (2, .ref a2), (1, .ref a1)] []) : ax_Y b0 p l e R s m args below meth c 4 D T o c0 u0 Q G I L 920 [(3, .int (nI i)), (2, .ref a2), (1, .ref a1)] [] := by
  obtain ⟨v, hc⟩ := hP G I L hr
  obtain ⟨g1_, g2_, g3_, g4_, -, -, g5_, g6_⟩ := hF.1 G I L hr
  refine y_aload_n C (dk ddL_law_p16 6 rfl) rfl ?_
  refine y_sld C (i := i) (k := 1) hX hbl hbo (dk ddL_law_p16 7 rfl) (dk ddL_law_p16 8 rfl) (dk ddL_law_p16 9 rfl) (dk ddL_law_p16 10 rfl) (dk ddL_law_p16 11 rfl) rfl (by first | rfl | decide) (by omega) hL ?_
  refine y_sld C (i := i) (k := 2) hX hbl hbo (dk ddL_law_p16 12 rfl) (dk ddL_law_p16 13 rfl) (dk ddL_law_p16 14 rfl) (dk ddL_law_p16 15 rfl) (dk ddL_law_p16 16 rfl) rfl (by first | rfl | decide) (by omega) hL ?_
  refine y_sld C (i := i) (k := 3) hX hbl hbo (dk ddL_law_p16 17 rfl) (dk ddL_law_p16 18 rfl) (dk ddL_law_p16 19 rfl) (dk ddL_law_p16 20 rfl) (dk ddL_law_p16 21 rfl) rfl (by first | rfl | decide) (by omega) hL ?_
  refine y_sld C (i := i) (k := 4) hX hbl hbo (dk ddL_law_p16 22 rfl) (dk ddL_law_p16 23 rfl) (dk ddL_law_p16 24 rfl) (dk ddL_law_p16 25 rfl) (dk ddL_law_p16 26 rfl) rfl (by first | rfl | decide) (by omega) hL ?_
  refine y_sld C (i := i) (k := 5) hX hbl hbo (dk ddL_law_p16 27 rfl) (dk ddL_law_p16 28 rfl) (dk ddL_law_p16 29 rfl) (dk ddL_law_p16 30 rfl) (dk ddL_law_p16 31 rfl) rfl (by first | rfl | decide) (by omega) hL ?_
  refine y_callV C (ci := 10) (As := [.int (xs (i + 1)), .int (xs (i + 2)), .int (xs (i + 3)), .int (xs (i + 4)), .int (xs (i + 5))]) hc mlL_81 rfl rfl g1_ g2_ hF.2 ⟨g5_, g6_⟩ rfl (Nat.le_of_ble_eq_true rfl) (dk ddL_law_p16 32 rfl) ?_
  rintro v_ G_ I_ L_ ⟨rfl, rfl, hc2⟩
  refine y_aload_n C (dk ddL_law_p16 33 rfl) rfl ?_
  refine y_sld C (i := i) (k := 1) hX hbl hbo (dk ddL_law_p16 34 rfl) (dk ddL_law_p16 35 rfl) (dk ddL_law_p16 36 rfl) (dk ddL_law_p16 37 rfl) (dk ddL_law_p16 38 rfl) rfl (by first | rfl | decide) (by omega) hL ?_
  refine y_sld C (i := i) (k := 2) hX hbl hbo (dk ddL_law_p16 39 rfl) (dk ddL_law_p17 0 rfl) (dk ddL_law_p17 1 rfl) (dk ddL_law_p17 2 rfl) (dk ddL_law_p17 3 rfl) rfl (by first | rfl | decide) (by omega) hL ?_
  refine y_sld C (i := i) (k := 3) hX hbl hbo (dk ddL_law_p17 4 rfl) (dk ddL_law_p17 5 rfl) (dk ddL_law_p17 6 rfl) (dk ddL_law_p17 7 rfl) (dk ddL_law_p17 8 rfl) rfl (by first | rfl | decide) (by omega) hL ?_
  refine y_sld C (i := i) (k := 4) hX hbl hbo (dk ddL_law_p17 9 rfl) (dk ddL_law_p17 10 rfl) (dk ddL_law_p17 11 rfl) (dk ddL_law_p17 12 rfl) (dk ddL_law_p17 13 rfl) rfl (by first | rfl | decide) (by omega) hL ?_
  refine y_sld C (i := i) (k := 5) hX hbl hbo (dk ddL_law_p17 14 rfl) (dk ddL_law_p17 15 rfl) (dk ddL_law_p17 16 rfl) (dk ddL_law_p17 17 rfl) (dk ddL_law_p17 18 rfl) rfl (by first | rfl | decide) (by omega) hL ?_
  refine y_callV C (ci := 11) (As := [.int (xs (i + 1)), .int (xs (i + 2)), .int (xs (i + 3)), .int (xs (i + 4)), .int (xs (i + 5))]) hc2 mlL_84 rfl rfl g3_ g4_ hF.2 ⟨g5_, g6_⟩ rfl (Nat.le_of_ble_eq_true rfl) (dk ddL_law_p17 19 rfl) ?_
  rintro v_ G_ I_ L_ ⟨rfl, hr2⟩
  exact y_lc_eq C (tgt := 1772) (dk ddL_law_p17 20 rfl) (dk ddL_law_p17 21 rfl) (by decide) (fun _ => kt _ _ _ hr2) (fun h => absurd rfl h)
set_option maxRecDepth 20000 in
/-- arm 17 -/
theorem law_arm_17 {p : Program} {l : Launch} {e : Env} {R : Room} {s : State} {m : MethodId} {args : Array Value} {below : List Frame} {meth : Method} {c : Code} {b0 : Nat} {nm : String} {ret : Option FieldType} {D : va_G} {T : Nat → ClassId} {o c0 u0 : Nat} {Q : State → Prop} {G : ax_G} {I : ax_I} {L : ax_L} {Rel : ax_G → ax_I → ax_L → Prop} {a1 a2 d Ls i : Nat} {xs : Nat → Int32}
    (C : ax_C p s m args meth c cL_law 4 RL nm ret D T o c0) (hX : va_X b0 Ls xs s s.heap) (hbl : b0 < s.heap.size) (hbo : b0 < o) (hi : i + 7 ≤ Ls) (hL : Ls < 2 ^ 31) (hF : ay_Rm Rel a1 a2 d c0 u0 R) (hr : Rel G I L)
    (hP : ay_PI l D T o d Rel a1 a2 yX10_exact cX10_exact 3 (some .int) yX11_exact cX11_exact 3 (some .int) [.int (xs (i + 1)), .int (xs (i + 2))])
    (kt : ∀ G I L, Rel G I L → ax_Y b0 p l e R s m args below meth c 4 D T o c0 u0 Q G I L 1772 [(3, .int (nI i)), (2, .ref a2), (1, .ref a1)] []) : ax_Y b0 p l e R s m args below meth c 4 D T o c0 u0 Q G I L 984 [(3, .int (nI i)), (2, .ref a2), (1, .ref a1)] [] := by
  obtain ⟨v, hc⟩ := hP G I L hr
  obtain ⟨g1_, g2_, g3_, g4_, -, -, g5_, g6_⟩ := hF.1 G I L hr
  refine y_aload_n C (dk ddL_law_p17 24 rfl) rfl ?_
  refine y_sld C (i := i) (k := 1) hX hbl hbo (dk ddL_law_p17 25 rfl) (dk ddL_law_p17 26 rfl) (dk ddL_law_p17 27 rfl) (dk ddL_law_p17 28 rfl) (dk ddL_law_p17 29 rfl) rfl (by first | rfl | decide) (by omega) hL ?_
  refine y_sld C (i := i) (k := 2) hX hbl hbo (dk ddL_law_p17 30 rfl) (dk ddL_law_p17 31 rfl) (dk ddL_law_p17 32 rfl) (dk ddL_law_p17 33 rfl) (dk ddL_law_p17 34 rfl) rfl (by first | rfl | decide) (by omega) hL ?_
  refine y_callV C (ci := 10) (As := [.int (xs (i + 1)), .int (xs (i + 2))]) hc mlL_85 rfl rfl g1_ g2_ hF.2 ⟨g5_, g6_⟩ rfl (Nat.le_of_ble_eq_true rfl) (dk ddL_law_p17 35 rfl) ?_
  rintro v_ G_ I_ L_ ⟨rfl, rfl, hc2⟩
  refine y_aload_n C (dk ddL_law_p17 36 rfl) rfl ?_
  refine y_sld C (i := i) (k := 1) hX hbl hbo (dk ddL_law_p17 37 rfl) (dk ddL_law_p17 38 rfl) (dk ddL_law_p17 39 rfl) (dk ddL_law_p18 0 rfl) (dk ddL_law_p18 1 rfl) rfl (by first | rfl | decide) (by omega) hL ?_
  refine y_sld C (i := i) (k := 2) hX hbl hbo (dk ddL_law_p18 2 rfl) (dk ddL_law_p18 3 rfl) (dk ddL_law_p18 4 rfl) (dk ddL_law_p18 5 rfl) (dk ddL_law_p18 6 rfl) rfl (by first | rfl | decide) (by omega) hL ?_
  refine y_callV C (ci := 11) (As := [.int (xs (i + 1)), .int (xs (i + 2))]) hc2 mlL_88 rfl rfl g3_ g4_ hF.2 ⟨g5_, g6_⟩ rfl (Nat.le_of_ble_eq_true rfl) (dk ddL_law_p18 7 rfl) ?_
  rintro v_ G_ I_ L_ ⟨rfl, hr2⟩
  exact y_icmp_eq C (tgt := 1772) (dk ddL_law_p18 8 rfl) (by decide) (fun _ => kt _ _ _ hr2) (fun h => absurd rfl h)
set_option maxRecDepth 20000 in
/-- arm 18 -/
theorem law_arm_18 {p : Program} {l : Launch} {e : Env} {R : Room} {s : State} {m : MethodId} {args : Array Value} {below : List Frame} {meth : Method} {c : Code} {b0 : Nat} {nm : String} {ret : Option FieldType} {D : va_G} {T : Nat → ClassId} {o c0 u0 : Nat} {Q : State → Prop} {G : ax_G} {I : ax_I} {L : ax_L} {Rel : ax_G → ax_I → ax_L → Prop} {a1 a2 d Ls i : Nat} {xs : Nat → Int32}
    (C : ax_C p s m args meth c cL_law 4 RL nm ret D T o c0) (hX : va_X b0 Ls xs s s.heap) (hbl : b0 < s.heap.size) (hbo : b0 < o) (hi : i + 7 ≤ Ls) (hL : Ls < 2 ^ 31) (hF : ay_Rm Rel a1 a2 d c0 u0 R) (hr : Rel G I L)
    (hP : ay_PI l D T o d Rel a1 a2 yX10_feed cX10_feed 4 (some .int) yX11_feed cX11_feed 5 (some .int) [.long ((((xs (i + 1)).toInt64) <<< ((32 : Int32).toInt64 &&& 63)) ||| (((xs (i + 2)).toInt64) &&& 4294967295)), .int (xs (i + 3))])
    (kt : ∀ G I L, Rel G I L → ax_Y b0 p l e R s m args below meth c 4 D T o c0 u0 Q G I L 1772 [(3, .int (nI i)), (2, .ref a2), (1, .ref a1)] []) : ax_Y b0 p l e R s m args below meth c 4 D T o c0 u0 Q G I L 1017 [(3, .int (nI i)), (2, .ref a2), (1, .ref a1)] [] := by
  obtain ⟨v, hc⟩ := hP G I L hr
  obtain ⟨g1_, g2_, g3_, g4_, -, -, g5_, g6_⟩ := hF.1 G I L hr
  refine y_aload_n C (dk ddL_law_p18 11 rfl) rfl ?_
  refine y_sld C (i := i) (k := 1) hX hbl hbo (dk ddL_law_p18 12 rfl) (dk ddL_law_p18 13 rfl) (dk ddL_law_p18 14 rfl) (dk ddL_law_p18 15 rfl) (dk ddL_law_p18 16 rfl) rfl (by first | rfl | decide) (by omega) hL ?_
  refine y_i2l C (dk ddL_law_p18 17 rfl) ?_
  refine y_bipush C (v := 32) (dk ddL_law_p18 18 rfl) (by decide) ?_
  refine y_lshl C (dk ddL_law_p18 19 rfl) ?_
  refine y_sld C (i := i) (k := 2) hX hbl hbo (dk ddL_law_p18 20 rfl) (dk ddL_law_p18 21 rfl) (dk ddL_law_p18 22 rfl) (dk ddL_law_p18 23 rfl) (dk ddL_law_p18 24 rfl) rfl (by first | rfl | decide) (by omega) hL ?_
  refine y_i2l C (dk ddL_law_p18 25 rfl) ?_
  refine y_ldc2 C klL_89 (dk ddL_law_p18 26 rfl) ?_
  refine y_land C (dk ddL_law_p18 27 rfl) ?_
  refine y_lor C (dk ddL_law_p18 28 rfl) ?_
  refine y_sld C (i := i) (k := 3) hX hbl hbo (dk ddL_law_p18 29 rfl) (dk ddL_law_p18 30 rfl) (dk ddL_law_p18 31 rfl) (dk ddL_law_p18 32 rfl) (dk ddL_law_p18 33 rfl) rfl (by first | rfl | decide) (by omega) hL ?_
  refine y_callV C (ci := 10) (As := [.long ((((xs (i + 1)).toInt64) <<< ((32 : Int32).toInt64 &&& 63)) ||| (((xs (i + 2)).toInt64) &&& 4294967295)), .int (xs (i + 3))]) hc mlL_91 rfl rfl g1_ g2_ hF.2 ⟨g5_, g6_⟩ rfl (Nat.le_of_ble_eq_true rfl) (dk ddL_law_p18 34 rfl) ?_
  rintro v_ G_ I_ L_ ⟨rfl, rfl, hc2⟩
  refine y_aload_n C (dk ddL_law_p18 35 rfl) rfl ?_
  refine y_sld C (i := i) (k := 1) hX hbl hbo (dk ddL_law_p18 36 rfl) (dk ddL_law_p18 37 rfl) (dk ddL_law_p18 38 rfl) (dk ddL_law_p18 39 rfl) (dk ddL_law_p19 0 rfl) rfl (by first | rfl | decide) (by omega) hL ?_
  refine y_i2l C (dk ddL_law_p19 1 rfl) ?_
  refine y_bipush C (v := 32) (dk ddL_law_p19 2 rfl) (by decide) ?_
  refine y_lshl C (dk ddL_law_p19 3 rfl) ?_
  refine y_sld C (i := i) (k := 2) hX hbl hbo (dk ddL_law_p19 4 rfl) (dk ddL_law_p19 5 rfl) (dk ddL_law_p19 6 rfl) (dk ddL_law_p19 7 rfl) (dk ddL_law_p19 8 rfl) rfl (by first | rfl | decide) (by omega) hL ?_
  refine y_i2l C (dk ddL_law_p19 9 rfl) ?_
  refine y_ldc2 C klL_89 (dk ddL_law_p19 10 rfl) ?_
  refine y_land C (dk ddL_law_p19 11 rfl) ?_
  refine y_lor C (dk ddL_law_p19 12 rfl) ?_
  refine y_sld C (i := i) (k := 3) hX hbl hbo (dk ddL_law_p19 13 rfl) (dk ddL_law_p19 14 rfl) (dk ddL_law_p19 15 rfl) (dk ddL_law_p19 16 rfl) (dk ddL_law_p19 17 rfl) rfl (by first | rfl | decide) (by omega) hL ?_
  refine y_callV C (ci := 11) (As := [.long ((((xs (i + 1)).toInt64) <<< ((32 : Int32).toInt64 &&& 63)) ||| (((xs (i + 2)).toInt64) &&& 4294967295)), .int (xs (i + 3))]) hc2 mlL_95 rfl rfl g3_ g4_ hF.2 ⟨g5_, g6_⟩ rfl (Nat.le_of_ble_eq_true rfl) (dk ddL_law_p19 18 rfl) ?_
  rintro v_ G_ I_ L_ ⟨rfl, hr2⟩
  exact y_icmp_eq C (tgt := 1772) (dk ddL_law_p19 19 rfl) (by decide) (fun _ => kt _ _ _ hr2) (fun h => absurd rfl h)
set_option maxRecDepth 20000 in
/-- arm 19 -/
theorem law_arm_19 {p : Program} {l : Launch} {e : Env} {R : Room} {s : State} {m : MethodId} {args : Array Value} {below : List Frame} {meth : Method} {c : Code} {b0 : Nat} {nm : String} {ret : Option FieldType} {D : va_G} {T : Nat → ClassId} {o c0 u0 : Nat} {Q : State → Prop} {G : ax_G} {I : ax_I} {L : ax_L} {Rel : ax_G → ax_I → ax_L → Prop} {a1 a2 d Ls i : Nat} {xs : Nat → Int32}
    (C : ax_C p s m args meth c cL_law 4 RL nm ret D T o c0) (hX : va_X b0 Ls xs s s.heap) (hbl : b0 < s.heap.size) (hbo : b0 < o) (hi : i + 7 ≤ Ls) (hL : Ls < 2 ^ 31) (hF : ay_Rm Rel a1 a2 d c0 u0 R) (hr : Rel G I L)
    (hP : ay_PI l D T o d Rel a1 a2 yX10_text cX10_text 4 (some .int) yX11_text cX11_text 4 (some .int) [.int (xs (i + 1))])
    (kt : ∀ G I L, Rel G I L → ax_Y b0 p l e R s m args below meth c 4 D T o c0 u0 Q G I L 1772 [(3, .int (nI i)), (2, .ref a2), (1, .ref a1)] []) : ax_Y b0 p l e R s m args below meth c 4 D T o c0 u0 Q G I L 1080 [(3, .int (nI i)), (2, .ref a2), (1, .ref a1)] [] := by
  obtain ⟨v, hc⟩ := hP G I L hr
  obtain ⟨g1_, g2_, g3_, g4_, -, -, g5_, g6_⟩ := hF.1 G I L hr
  refine y_aload_n C (dk ddL_law_p19 22 rfl) rfl ?_
  refine y_sld C (i := i) (k := 1) hX hbl hbo (dk ddL_law_p19 23 rfl) (dk ddL_law_p19 24 rfl) (dk ddL_law_p19 25 rfl) (dk ddL_law_p19 26 rfl) (dk ddL_law_p19 27 rfl) rfl (by first | rfl | decide) (by omega) hL ?_
  refine y_callV C (ci := 10) (As := [.int (xs (i + 1))]) hc mlL_96 rfl rfl g1_ g2_ hF.2 ⟨g5_, g6_⟩ rfl (Nat.le_of_ble_eq_true rfl) (dk ddL_law_p19 28 rfl) ?_
  rintro v_ G_ I_ L_ ⟨rfl, rfl, hc2⟩
  refine y_aload_n C (dk ddL_law_p19 29 rfl) rfl ?_
  refine y_sld C (i := i) (k := 1) hX hbl hbo (dk ddL_law_p19 30 rfl) (dk ddL_law_p19 31 rfl) (dk ddL_law_p19 32 rfl) (dk ddL_law_p19 33 rfl) (dk ddL_law_p19 34 rfl) rfl (by first | rfl | decide) (by omega) hL ?_
  refine y_callV C (ci := 11) (As := [.int (xs (i + 1))]) hc2 mlL_100 rfl rfl g3_ g4_ hF.2 ⟨g5_, g6_⟩ rfl (Nat.le_of_ble_eq_true rfl) (dk ddL_law_p19 35 rfl) ?_
  rintro v_ G_ I_ L_ ⟨rfl, hr2⟩
  exact y_icmp_eq C (tgt := 1772) (dk ddL_law_p19 36 rfl) (by decide) (fun _ => kt _ _ _ hr2) (fun h => absurd rfl h)
set_option maxRecDepth 20000 in
/-- arm 20 -/
theorem law_arm_20 {p : Program} {l : Launch} {e : Env} {R : Room} {s : State} {m : MethodId} {args : Array Value} {below : List Frame} {meth : Method} {c : Code} {b0 : Nat} {nm : String} {ret : Option FieldType} {D : va_G} {T : Nat → ClassId} {o c0 u0 : Nat} {Q : State → Prop} {G : ax_G} {I : ax_I} {L : ax_L} {Rel : ax_G → ax_I → ax_L → Prop} {a1 a2 d Ls i : Nat} {xs : Nat → Int32}
    (C : ax_C p s m args meth c cL_law 4 RL nm ret D T o c0) (hX : va_X b0 Ls xs s s.heap) (hbl : b0 < s.heap.size) (hbo : b0 < o) (hi : i + 7 ≤ Ls) (hL : Ls < 2 ^ 31) (hF : ay_Rm Rel a1 a2 d c0 u0 R) (hr : Rel G I L)
    (hP : ay_PI l D T o d Rel a1 a2 yX10_diagram cX10_diagram 4 (some .int) yX11_diagram cX11_diagram 4 (some .int) [.int (xs (i + 1)), .int (xs (i + 2))])
    (kt : ∀ G I L, Rel G I L → ax_Y b0 p l e R s m args below meth c 4 D T o c0 u0 Q G I L 1772 [(3, .int (nI i)), (2, .ref a2), (1, .ref a1)] []) : ax_Y b0 p l e R s m args below meth c 4 D T o c0 u0 Q G I L 1103 [(3, .int (nI i)), (2, .ref a2), (1, .ref a1)] [] := by
  obtain ⟨v, hc⟩ := hP G I L hr
  obtain ⟨g1_, g2_, g3_, g4_, -, -, g5_, g6_⟩ := hF.1 G I L hr
  refine y_aload_n C (dk ddL_law_p19 39 rfl) rfl ?_
  refine y_sld C (i := i) (k := 1) hX hbl hbo (dk ddL_law_p20 0 rfl) (dk ddL_law_p20 1 rfl) (dk ddL_law_p20 2 rfl) (dk ddL_law_p20 3 rfl) (dk ddL_law_p20 4 rfl) rfl (by first | rfl | decide) (by omega) hL ?_
  refine y_sld C (i := i) (k := 2) hX hbl hbo (dk ddL_law_p20 5 rfl) (dk ddL_law_p20 6 rfl) (dk ddL_law_p20 7 rfl) (dk ddL_law_p20 8 rfl) (dk ddL_law_p20 9 rfl) rfl (by first | rfl | decide) (by omega) hL ?_
  refine y_callV C (ci := 10) (As := [.int (xs (i + 1)), .int (xs (i + 2))]) hc mlL_101 rfl rfl g1_ g2_ hF.2 ⟨g5_, g6_⟩ rfl (Nat.le_of_ble_eq_true rfl) (dk ddL_law_p20 10 rfl) ?_
  rintro v_ G_ I_ L_ ⟨rfl, rfl, hc2⟩
  refine y_aload_n C (dk ddL_law_p20 11 rfl) rfl ?_
  refine y_sld C (i := i) (k := 1) hX hbl hbo (dk ddL_law_p20 12 rfl) (dk ddL_law_p20 13 rfl) (dk ddL_law_p20 14 rfl) (dk ddL_law_p20 15 rfl) (dk ddL_law_p20 16 rfl) rfl (by first | rfl | decide) (by omega) hL ?_
  refine y_sld C (i := i) (k := 2) hX hbl hbo (dk ddL_law_p20 17 rfl) (dk ddL_law_p20 18 rfl) (dk ddL_law_p20 19 rfl) (dk ddL_law_p20 20 rfl) (dk ddL_law_p20 21 rfl) rfl (by first | rfl | decide) (by omega) hL ?_
  refine y_callV C (ci := 11) (As := [.int (xs (i + 1)), .int (xs (i + 2))]) hc2 mlL_104 rfl rfl g3_ g4_ hF.2 ⟨g5_, g6_⟩ rfl (Nat.le_of_ble_eq_true rfl) (dk ddL_law_p20 22 rfl) ?_
  rintro v_ G_ I_ L_ ⟨rfl, hr2⟩
  exact y_icmp_eq C (tgt := 1772) (dk ddL_law_p20 23 rfl) (by decide) (fun _ => kt _ _ _ hr2) (fun h => absurd rfl h)
set_option maxRecDepth 20000 in
/-- arm 21 -/
theorem law_arm_21 {p : Program} {l : Launch} {e : Env} {R : Room} {s : State} {m : MethodId} {args : Array Value} {below : List Frame} {meth : Method} {c : Code} {b0 : Nat} {nm : String} {ret : Option FieldType} {D : va_G} {T : Nat → ClassId} {o c0 u0 : Nat} {Q : State → Prop} {G : ax_G} {I : ax_I} {L : ax_L} {Rel : ax_G → ax_I → ax_L → Prop} {a1 a2 d Ls i : Nat} {xs : Nat → Int32}
    (C : ax_C p s m args meth c cL_law 4 RL nm ret D T o c0) (hX : va_X b0 Ls xs s s.heap) (hbl : b0 < s.heap.size) (hbo : b0 < o) (hi : i + 7 ≤ Ls) (hL : Ls < 2 ^ 31) (hF : ay_Rm Rel a1 a2 d c0 u0 R) (hr : Rel G I L)
    (hP : ay_PJ l D T o d Rel a1 a2 yX10_connected cX10_connected 8 (some .long) yX11_connected cX11_connected 8 (some .long) [.int (xs (i + 1)), .int (xs (i + 2)), .int (xs (i + 3)), .int (xs (i + 4)), .int (xs (i + 5)), .int (xs (i + 6))])
    (kt : ∀ G I L, Rel G I L → ax_Y b0 p l e R s m args below meth c 4 D T o c0 u0 Q G I L 1772 [(3, .int (nI i)), (2, .ref a2), (1, .ref a1)] []) : ax_Y b0 p l e R s m args below meth c 4 D T o c0 u0 Q G I L 1136 [(3, .int (nI i)), (2, .ref a2), (1, .ref a1)] [] := by
  obtain ⟨v, hc⟩ := hP G I L hr
  obtain ⟨g1_, g2_, g3_, g4_, -, -, g5_, g6_⟩ := hF.1 G I L hr
  refine y_aload_n C (dk ddL_law_p20 26 rfl) rfl ?_
  refine y_sld C (i := i) (k := 1) hX hbl hbo (dk ddL_law_p20 27 rfl) (dk ddL_law_p20 28 rfl) (dk ddL_law_p20 29 rfl) (dk ddL_law_p20 30 rfl) (dk ddL_law_p20 31 rfl) rfl (by first | rfl | decide) (by omega) hL ?_
  refine y_sld C (i := i) (k := 2) hX hbl hbo (dk ddL_law_p20 32 rfl) (dk ddL_law_p20 33 rfl) (dk ddL_law_p20 34 rfl) (dk ddL_law_p20 35 rfl) (dk ddL_law_p20 36 rfl) rfl (by first | rfl | decide) (by omega) hL ?_
  refine y_sld C (i := i) (k := 3) hX hbl hbo (dk ddL_law_p20 37 rfl) (dk ddL_law_p20 38 rfl) (dk ddL_law_p20 39 rfl) (dk ddL_law_p21 0 rfl) (dk ddL_law_p21 1 rfl) rfl (by first | rfl | decide) (by omega) hL ?_
  refine y_sld C (i := i) (k := 4) hX hbl hbo (dk ddL_law_p21 2 rfl) (dk ddL_law_p21 3 rfl) (dk ddL_law_p21 4 rfl) (dk ddL_law_p21 5 rfl) (dk ddL_law_p21 6 rfl) rfl (by first | rfl | decide) (by omega) hL ?_
  refine y_sld C (i := i) (k := 5) hX hbl hbo (dk ddL_law_p21 7 rfl) (dk ddL_law_p21 8 rfl) (dk ddL_law_p21 9 rfl) (dk ddL_law_p21 10 rfl) (dk ddL_law_p21 11 rfl) rfl (by first | rfl | decide) (by omega) hL ?_
  refine y_sldb C (i := i) (k := 6) hX hbl hbo (dk ddL_law_p21 12 rfl) (dk ddL_law_p21 13 rfl) (dk ddL_law_p21 14 rfl) (dk ddL_law_p21 15 rfl) (dk ddL_law_p21 16 rfl) rfl (by first | rfl | decide) (by omega) hL ?_
  refine y_callV C (ci := 10) (As := [.int (xs (i + 1)), .int (xs (i + 2)), .int (xs (i + 3)), .int (xs (i + 4)), .int (xs (i + 5)), .int (xs (i + 6))]) hc mlL_105 rfl rfl g1_ g2_ hF.2 ⟨g5_, g6_⟩ rfl (Nat.le_of_ble_eq_true rfl) (dk ddL_law_p21 17 rfl) ?_
  rintro v_ G_ I_ L_ ⟨rfl, rfl, hc2⟩
  refine y_aload_n C (dk ddL_law_p21 18 rfl) rfl ?_
  refine y_sld C (i := i) (k := 1) hX hbl hbo (dk ddL_law_p21 19 rfl) (dk ddL_law_p21 20 rfl) (dk ddL_law_p21 21 rfl) (dk ddL_law_p21 22 rfl) (dk ddL_law_p21 23 rfl) rfl (by first | rfl | decide) (by omega) hL ?_
  refine y_sld C (i := i) (k := 2) hX hbl hbo (dk ddL_law_p21 24 rfl) (dk ddL_law_p21 25 rfl) (dk ddL_law_p21 26 rfl) (dk ddL_law_p21 27 rfl) (dk ddL_law_p21 28 rfl) rfl (by first | rfl | decide) (by omega) hL ?_
  refine y_sld C (i := i) (k := 3) hX hbl hbo (dk ddL_law_p21 29 rfl) (dk ddL_law_p21 30 rfl) (dk ddL_law_p21 31 rfl) (dk ddL_law_p21 32 rfl) (dk ddL_law_p21 33 rfl) rfl (by first | rfl | decide) (by omega) hL ?_
  refine y_sld C (i := i) (k := 4) hX hbl hbo (dk ddL_law_p21 34 rfl) (dk ddL_law_p21 35 rfl) (dk ddL_law_p21 36 rfl) (dk ddL_law_p21 37 rfl) (dk ddL_law_p21 38 rfl) rfl (by first | rfl | decide) (by omega) hL ?_
  refine y_sld C (i := i) (k := 5) hX hbl hbo (dk ddL_law_p21 39 rfl) (dk ddL_law_p22 0 rfl) (dk ddL_law_p22 1 rfl) (dk ddL_law_p22 2 rfl) (dk ddL_law_p22 3 rfl) rfl (by first | rfl | decide) (by omega) hL ?_
  refine y_sldb C (i := i) (k := 6) hX hbl hbo (dk ddL_law_p22 4 rfl) (dk ddL_law_p22 5 rfl) (dk ddL_law_p22 6 rfl) (dk ddL_law_p22 7 rfl) (dk ddL_law_p22 8 rfl) rfl (by first | rfl | decide) (by omega) hL ?_
  refine y_callV C (ci := 11) (As := [.int (xs (i + 1)), .int (xs (i + 2)), .int (xs (i + 3)), .int (xs (i + 4)), .int (xs (i + 5)), .int (xs (i + 6))]) hc2 mlL_109 rfl rfl g3_ g4_ hF.2 ⟨g5_, g6_⟩ rfl (Nat.le_of_ble_eq_true rfl) (dk ddL_law_p22 9 rfl) ?_
  rintro v_ G_ I_ L_ ⟨rfl, hr2⟩
  exact y_lc_eq C (tgt := 1772) (dk ddL_law_p22 10 rfl) (dk ddL_law_p22 11 rfl) (by decide) (fun _ => kt _ _ _ hr2) (fun h => absurd rfl h)
set_option maxRecDepth 20000 in
/-- arm 22 -/
theorem law_arm_22 {p : Program} {l : Launch} {e : Env} {R : Room} {s : State} {m : MethodId} {args : Array Value} {below : List Frame} {meth : Method} {c : Code} {b0 : Nat} {nm : String} {ret : Option FieldType} {D : va_G} {T : Nat → ClassId} {o c0 u0 : Nat} {Q : State → Prop} {G : ax_G} {I : ax_I} {L : ax_L} {Rel : ax_G → ax_I → ax_L → Prop} {a1 a2 d Ls i : Nat} {xs : Nat → Int32}
    (C : ax_C p s m args meth c cL_law 4 RL nm ret D T o c0) (hX : va_X b0 Ls xs s s.heap) (hbl : b0 < s.heap.size) (hbo : b0 < o) (hi : i + 7 ≤ Ls) (hL : Ls < 2 ^ 31) (hF : ay_Rm Rel a1 a2 d c0 u0 R) (hr : Rel G I L)
    (hP : ay_PI l D T o d Rel a1 a2 yX10_move cX10_move 3 (some .int) yX11_move cX11_move 5 (some .int) [.int (xs (i + 1)), .int (xs (i + 2))])
    (kt : ∀ G I L, Rel G I L → ax_Y b0 p l e R s m args below meth c 4 D T o c0 u0 Q G I L 1772 [(3, .int (nI i)), (2, .ref a2), (1, .ref a1)] []) : ax_Y b0 p l e R s m args below meth c 4 D T o c0 u0 Q G I L 1212 [(3, .int (nI i)), (2, .ref a2), (1, .ref a1)] [] := by
  obtain ⟨v, hc⟩ := hP G I L hr
  obtain ⟨g1_, g2_, g3_, g4_, -, -, g5_, g6_⟩ := hF.1 G I L hr
  refine y_aload_n C (dk ddL_law_p22 14 rfl) rfl ?_
  refine y_sld C (i := i) (k := 1) hX hbl hbo (dk ddL_law_p22 15 rfl) (dk ddL_law_p22 16 rfl) (dk ddL_law_p22 17 rfl) (dk ddL_law_p22 18 rfl) (dk ddL_law_p22 19 rfl) rfl (by first | rfl | decide) (by omega) hL ?_
  refine y_sld C (i := i) (k := 2) hX hbl hbo (dk ddL_law_p22 20 rfl) (dk ddL_law_p22 21 rfl) (dk ddL_law_p22 22 rfl) (dk ddL_law_p22 23 rfl) (dk ddL_law_p22 24 rfl) rfl (by first | rfl | decide) (by omega) hL ?_
  refine y_callV C (ci := 10) (As := [.int (xs (i + 1)), .int (xs (i + 2))]) hc mlL_110 rfl rfl g1_ g2_ hF.2 ⟨g5_, g6_⟩ rfl (Nat.le_of_ble_eq_true rfl) (dk ddL_law_p22 25 rfl) ?_
  rintro v_ G_ I_ L_ ⟨rfl, rfl, hc2⟩
  refine y_aload_n C (dk ddL_law_p22 26 rfl) rfl ?_
  refine y_sld C (i := i) (k := 1) hX hbl hbo (dk ddL_law_p22 27 rfl) (dk ddL_law_p22 28 rfl) (dk ddL_law_p22 29 rfl) (dk ddL_law_p22 30 rfl) (dk ddL_law_p22 31 rfl) rfl (by first | rfl | decide) (by omega) hL ?_
  refine y_sld C (i := i) (k := 2) hX hbl hbo (dk ddL_law_p22 32 rfl) (dk ddL_law_p22 33 rfl) (dk ddL_law_p22 34 rfl) (dk ddL_law_p22 35 rfl) (dk ddL_law_p22 36 rfl) rfl (by first | rfl | decide) (by omega) hL ?_
  refine y_callV C (ci := 11) (As := [.int (xs (i + 1)), .int (xs (i + 2))]) hc2 mlL_113 rfl rfl g3_ g4_ hF.2 ⟨g5_, g6_⟩ rfl (Nat.le_of_ble_eq_true rfl) (dk ddL_law_p22 37 rfl) ?_
  rintro v_ G_ I_ L_ ⟨rfl, hr2⟩
  exact y_icmp_eq C (tgt := 1772) (dk ddL_law_p22 38 rfl) (by decide) (fun _ => kt _ _ _ hr2) (fun h => absurd rfl h)
set_option maxRecDepth 20000 in
/-- arm 23 -/
theorem law_arm_23 {p : Program} {l : Launch} {e : Env} {R : Room} {s : State} {m : MethodId} {args : Array Value} {below : List Frame} {meth : Method} {c : Code} {b0 : Nat} {nm : String} {ret : Option FieldType} {D : va_G} {T : Nat → ClassId} {o c0 u0 : Nat} {Q : State → Prop} {G : ax_G} {I : ax_I} {L : ax_L} {Rel : ax_G → ax_I → ax_L → Prop} {a1 a2 d Ls i : Nat} {xs : Nat → Int32}
    (C : ax_C p s m args meth c cL_law 4 RL nm ret D T o c0) (hX : va_X b0 Ls xs s s.heap) (hbl : b0 < s.heap.size) (hbo : b0 < o) (hi : i + 7 ≤ Ls) (hL : Ls < 2 ^ 31) (hF : ay_Rm Rel a1 a2 d c0 u0 R) (hr : Rel G I L)
    (hP : ay_PI l D T o d Rel a1 a2 yX10_stop cX10_stop 2 (some .int) yX11_stop cX11_stop 5 (some .int) [.int (xs (i + 1))])
    (kt : ∀ G I L, Rel G I L → ax_Y b0 p l e R s m args below meth c 4 D T o c0 u0 Q G I L 1772 [(3, .int (nI i)), (2, .ref a2), (1, .ref a1)] []) : ax_Y b0 p l e R s m args below meth c 4 D T o c0 u0 Q G I L 1245 [(3, .int (nI i)), (2, .ref a2), (1, .ref a1)] [] := by
  obtain ⟨v, hc⟩ := hP G I L hr
  obtain ⟨g1_, g2_, g3_, g4_, -, -, g5_, g6_⟩ := hF.1 G I L hr
  refine y_aload_n C (dk ddL_law_p23 1 rfl) rfl ?_
  refine y_sld C (i := i) (k := 1) hX hbl hbo (dk ddL_law_p23 2 rfl) (dk ddL_law_p23 3 rfl) (dk ddL_law_p23 4 rfl) (dk ddL_law_p23 5 rfl) (dk ddL_law_p23 6 rfl) rfl (by first | rfl | decide) (by omega) hL ?_
  refine y_callV C (ci := 10) (As := [.int (xs (i + 1))]) hc mlL_114 rfl rfl g1_ g2_ hF.2 ⟨g5_, g6_⟩ rfl (Nat.le_of_ble_eq_true rfl) (dk ddL_law_p23 7 rfl) ?_
  rintro v_ G_ I_ L_ ⟨rfl, rfl, hc2⟩
  refine y_aload_n C (dk ddL_law_p23 8 rfl) rfl ?_
  refine y_sld C (i := i) (k := 1) hX hbl hbo (dk ddL_law_p23 9 rfl) (dk ddL_law_p23 10 rfl) (dk ddL_law_p23 11 rfl) (dk ddL_law_p23 12 rfl) (dk ddL_law_p23 13 rfl) rfl (by first | rfl | decide) (by omega) hL ?_
  refine y_callV C (ci := 11) (As := [.int (xs (i + 1))]) hc2 mlL_117 rfl rfl g3_ g4_ hF.2 ⟨g5_, g6_⟩ rfl (Nat.le_of_ble_eq_true rfl) (dk ddL_law_p23 14 rfl) ?_
  rintro v_ G_ I_ L_ ⟨rfl, hr2⟩
  exact y_icmp_eq C (tgt := 1772) (dk ddL_law_p23 15 rfl) (by decide) (fun _ => kt _ _ _ hr2) (fun h => absurd rfl h)
set_option maxRecDepth 20000 in
/-- arm 24 -/
theorem law_arm_24 {p : Program} {l : Launch} {e : Env} {R : Room} {s : State} {m : MethodId} {args : Array Value} {below : List Frame} {meth : Method} {c : Code} {b0 : Nat} {nm : String} {ret : Option FieldType} {D : va_G} {T : Nat → ClassId} {o c0 u0 : Nat} {Q : State → Prop} {G : ax_G} {I : ax_I} {L : ax_L} {Rel : ax_G → ax_I → ax_L → Prop} {a1 a2 d Ls i : Nat} {xs : Nat → Int32}
    (C : ax_C p s m args meth c cL_law 4 RL nm ret D T o c0) (hX : va_X b0 Ls xs s s.heap) (hbl : b0 < s.heap.size) (hbo : b0 < o) (hi : i + 7 ≤ Ls) (hL : Ls < 2 ^ 31) (hF : ay_Rm Rel a1 a2 d c0 u0 R) (hr : Rel G I L)
    (hP : ay_PJ l D T o d Rel a1 a2 yX10_run cX10_run 8 (some .long) yX11_run cX11_run 7 (some .long) [.int (xs (i + 1)), .int (xs (i + 2)), .int (xs (i + 3)), .int (xs (i + 4)), .int (xs (i + 5))])
    (kt : ∀ G I L, Rel G I L → ax_Y b0 p l e R s m args below meth c 4 D T o c0 u0 Q G I L 1772 [(3, .int (nI i)), (2, .ref a2), (1, .ref a1)] []) : ax_Y b0 p l e R s m args below meth c 4 D T o c0 u0 Q G I L 1268 [(3, .int (nI i)), (2, .ref a2), (1, .ref a1)] [] := by
  obtain ⟨v, hc⟩ := hP G I L hr
  obtain ⟨g1_, g2_, g3_, g4_, -, -, g5_, g6_⟩ := hF.1 G I L hr
  refine y_aload_n C (dk ddL_law_p23 18 rfl) rfl ?_
  refine y_sld C (i := i) (k := 1) hX hbl hbo (dk ddL_law_p23 19 rfl) (dk ddL_law_p23 20 rfl) (dk ddL_law_p23 21 rfl) (dk ddL_law_p23 22 rfl) (dk ddL_law_p23 23 rfl) rfl (by first | rfl | decide) (by omega) hL ?_
  refine y_sld C (i := i) (k := 2) hX hbl hbo (dk ddL_law_p23 24 rfl) (dk ddL_law_p23 25 rfl) (dk ddL_law_p23 26 rfl) (dk ddL_law_p23 27 rfl) (dk ddL_law_p23 28 rfl) rfl (by first | rfl | decide) (by omega) hL ?_
  refine y_sld C (i := i) (k := 3) hX hbl hbo (dk ddL_law_p23 29 rfl) (dk ddL_law_p23 30 rfl) (dk ddL_law_p23 31 rfl) (dk ddL_law_p23 32 rfl) (dk ddL_law_p23 33 rfl) rfl (by first | rfl | decide) (by omega) hL ?_
  refine y_sld C (i := i) (k := 4) hX hbl hbo (dk ddL_law_p23 34 rfl) (dk ddL_law_p23 35 rfl) (dk ddL_law_p23 36 rfl) (dk ddL_law_p23 37 rfl) (dk ddL_law_p23 38 rfl) rfl (by first | rfl | decide) (by omega) hL ?_
  refine y_sld C (i := i) (k := 5) hX hbl hbo (dk ddL_law_p23 39 rfl) (dk ddL_law_p24 0 rfl) (dk ddL_law_p24 1 rfl) (dk ddL_law_p24 2 rfl) (dk ddL_law_p24 3 rfl) rfl (by first | rfl | decide) (by omega) hL ?_
  refine y_callV C (ci := 10) (As := [.int (xs (i + 1)), .int (xs (i + 2)), .int (xs (i + 3)), .int (xs (i + 4)), .int (xs (i + 5))]) hc mlL_118 rfl rfl g1_ g2_ hF.2 ⟨g5_, g6_⟩ rfl (Nat.le_of_ble_eq_true rfl) (dk ddL_law_p24 4 rfl) ?_
  rintro v_ G_ I_ L_ ⟨rfl, rfl, hc2⟩
  refine y_aload_n C (dk ddL_law_p24 5 rfl) rfl ?_
  refine y_sld C (i := i) (k := 1) hX hbl hbo (dk ddL_law_p24 6 rfl) (dk ddL_law_p24 7 rfl) (dk ddL_law_p24 8 rfl) (dk ddL_law_p24 9 rfl) (dk ddL_law_p24 10 rfl) rfl (by first | rfl | decide) (by omega) hL ?_
  refine y_sld C (i := i) (k := 2) hX hbl hbo (dk ddL_law_p24 11 rfl) (dk ddL_law_p24 12 rfl) (dk ddL_law_p24 13 rfl) (dk ddL_law_p24 14 rfl) (dk ddL_law_p24 15 rfl) rfl (by first | rfl | decide) (by omega) hL ?_
  refine y_sld C (i := i) (k := 3) hX hbl hbo (dk ddL_law_p24 16 rfl) (dk ddL_law_p24 17 rfl) (dk ddL_law_p24 18 rfl) (dk ddL_law_p24 19 rfl) (dk ddL_law_p24 20 rfl) rfl (by first | rfl | decide) (by omega) hL ?_
  refine y_sld C (i := i) (k := 4) hX hbl hbo (dk ddL_law_p24 21 rfl) (dk ddL_law_p24 22 rfl) (dk ddL_law_p24 23 rfl) (dk ddL_law_p24 24 rfl) (dk ddL_law_p24 25 rfl) rfl (by first | rfl | decide) (by omega) hL ?_
  refine y_sld C (i := i) (k := 5) hX hbl hbo (dk ddL_law_p24 26 rfl) (dk ddL_law_p24 27 rfl) (dk ddL_law_p24 28 rfl) (dk ddL_law_p24 29 rfl) (dk ddL_law_p24 30 rfl) rfl (by first | rfl | decide) (by omega) hL ?_
  refine y_callV C (ci := 11) (As := [.int (xs (i + 1)), .int (xs (i + 2)), .int (xs (i + 3)), .int (xs (i + 4)), .int (xs (i + 5))]) hc2 mlL_121 rfl rfl g3_ g4_ hF.2 ⟨g5_, g6_⟩ rfl (Nat.le_of_ble_eq_true rfl) (dk ddL_law_p24 31 rfl) ?_
  rintro v_ G_ I_ L_ ⟨rfl, hr2⟩
  exact y_lc_eq C (tgt := 1772) (dk ddL_law_p24 32 rfl) (dk ddL_law_p24 33 rfl) (by decide) (fun _ => kt _ _ _ hr2) (fun h => absurd rfl h)
set_option maxRecDepth 20000 in
/-- arm 25 -/
theorem law_arm_25 {p : Program} {l : Launch} {e : Env} {R : Room} {s : State} {m : MethodId} {args : Array Value} {below : List Frame} {meth : Method} {c : Code} {b0 : Nat} {nm : String} {ret : Option FieldType} {D : va_G} {T : Nat → ClassId} {o c0 u0 : Nat} {Q : State → Prop} {G : ax_G} {I : ax_I} {L : ax_L} {Rel : ax_G → ax_I → ax_L → Prop} {a1 a2 d Ls i : Nat} {xs : Nat → Int32}
    (C : ax_C p s m args meth c cL_law 4 RL nm ret D T o c0) (hX : va_X b0 Ls xs s s.heap) (hbl : b0 < s.heap.size) (hbo : b0 < o) (hi : i + 7 ≤ Ls) (hL : Ls < 2 ^ 31) (hF : ay_Rm Rel a1 a2 d c0 u0 R) (hr : Rel G I L)
    (hP : ay_PI l D T o d Rel a1 a2 yX10_undo cX10_undo 1 (some .int) yX11_undo cX11_undo 1 (some .int) [])
    (kt : ∀ G I L, Rel G I L → ax_Y b0 p l e R s m args below meth c 4 D T o c0 u0 Q G I L 1772 [(3, .int (nI i)), (2, .ref a2), (1, .ref a1)] []) : ax_Y b0 p l e R s m args below meth c 4 D T o c0 u0 Q G I L 1332 [(3, .int (nI i)), (2, .ref a2), (1, .ref a1)] [] := by
  obtain ⟨v, hc⟩ := hP G I L hr
  obtain ⟨g1_, g2_, g3_, g4_, -, -, g5_, g6_⟩ := hF.1 G I L hr
  refine y_aload_n C (dk ddL_law_p24 36 rfl) rfl ?_
  refine y_callV C (ci := 10) (As := []) hc mlL_122 rfl rfl g1_ g2_ hF.2 ⟨g5_, g6_⟩ rfl (Nat.le_of_ble_eq_true rfl) (dk ddL_law_p24 37 rfl) ?_
  rintro v_ G_ I_ L_ ⟨rfl, rfl, hc2⟩
  refine y_aload_n C (dk ddL_law_p24 38 rfl) rfl ?_
  refine y_callV C (ci := 11) (As := []) hc2 mlL_126 rfl rfl g3_ g4_ hF.2 ⟨g5_, g6_⟩ rfl (Nat.le_of_ble_eq_true rfl) (dk ddL_law_p24 39 rfl) ?_
  rintro v_ G_ I_ L_ ⟨rfl, hr2⟩
  exact y_icmp_eq C (tgt := 1772) (dk ddL_law_p25 0 rfl) (by decide) (fun _ => kt _ _ _ hr2) (fun h => absurd rfl h)
set_option maxRecDepth 20000 in
/-- arm 26 -/
theorem law_arm_26 {p : Program} {l : Launch} {e : Env} {R : Room} {s : State} {m : MethodId} {args : Array Value} {below : List Frame} {meth : Method} {c : Code} {b0 : Nat} {nm : String} {ret : Option FieldType} {D : va_G} {T : Nat → ClassId} {o c0 u0 : Nat} {Q : State → Prop} {G : ax_G} {I : ax_I} {L : ax_L} {Rel : ax_G → ax_I → ax_L → Prop} {a1 a2 d Ls i : Nat} {xs : Nat → Int32}
    (C : ax_C p s m args meth c cL_law 4 RL nm ret D T o c0) (hX : va_X b0 Ls xs s s.heap) (hbl : b0 < s.heap.size) (hbo : b0 < o) (hi : i + 7 ≤ Ls) (hL : Ls < 2 ^ 31) (hF : ay_Rm Rel a1 a2 d c0 u0 R) (hr : Rel G I L)
    (hP : ay_PI l D T o d Rel a1 a2 yX10_sheet cX10_sheet 4 (some .int) yX11_sheet cX11_sheet 5 (some .int) [.int (xs (i + 1)), .int (xs (i + 2)), .int (xs (i + 3))])
    (kt : ∀ G I L, Rel G I L → ax_Y b0 p l e R s m args below meth c 4 D T o c0 u0 Q G I L 1772 [(3, .int (nI i)), (2, .ref a2), (1, .ref a1)] []) : ax_Y b0 p l e R s m args below meth c 4 D T o c0 u0 Q G I L 1345 [(3, .int (nI i)), (2, .ref a2), (1, .ref a1)] [] := by
  obtain ⟨v, hc⟩ := hP G I L hr
  obtain ⟨g1_, g2_, g3_, g4_, -, -, g5_, g6_⟩ := hF.1 G I L hr
  refine y_aload_n C (dk ddL_law_p25 3 rfl) rfl ?_
  refine y_sld C (i := i) (k := 1) hX hbl hbo (dk ddL_law_p25 4 rfl) (dk ddL_law_p25 5 rfl) (dk ddL_law_p25 6 rfl) (dk ddL_law_p25 7 rfl) (dk ddL_law_p25 8 rfl) rfl (by first | rfl | decide) (by omega) hL ?_
  refine y_sld C (i := i) (k := 2) hX hbl hbo (dk ddL_law_p25 9 rfl) (dk ddL_law_p25 10 rfl) (dk ddL_law_p25 11 rfl) (dk ddL_law_p25 12 rfl) (dk ddL_law_p25 13 rfl) rfl (by first | rfl | decide) (by omega) hL ?_
  refine y_sld C (i := i) (k := 3) hX hbl hbo (dk ddL_law_p25 14 rfl) (dk ddL_law_p25 15 rfl) (dk ddL_law_p25 16 rfl) (dk ddL_law_p25 17 rfl) (dk ddL_law_p25 18 rfl) rfl (by first | rfl | decide) (by omega) hL ?_
  refine y_callV C (ci := 10) (As := [.int (xs (i + 1)), .int (xs (i + 2)), .int (xs (i + 3))]) hc mlL_127 rfl rfl g1_ g2_ hF.2 ⟨g5_, g6_⟩ rfl (Nat.le_of_ble_eq_true rfl) (dk ddL_law_p25 19 rfl) ?_
  rintro v_ G_ I_ L_ ⟨rfl, rfl, hc2⟩
  refine y_aload_n C (dk ddL_law_p25 20 rfl) rfl ?_
  refine y_sld C (i := i) (k := 1) hX hbl hbo (dk ddL_law_p25 21 rfl) (dk ddL_law_p25 22 rfl) (dk ddL_law_p25 23 rfl) (dk ddL_law_p25 24 rfl) (dk ddL_law_p25 25 rfl) rfl (by first | rfl | decide) (by omega) hL ?_
  refine y_sld C (i := i) (k := 2) hX hbl hbo (dk ddL_law_p25 26 rfl) (dk ddL_law_p25 27 rfl) (dk ddL_law_p25 28 rfl) (dk ddL_law_p25 29 rfl) (dk ddL_law_p25 30 rfl) rfl (by first | rfl | decide) (by omega) hL ?_
  refine y_sld C (i := i) (k := 3) hX hbl hbo (dk ddL_law_p25 31 rfl) (dk ddL_law_p25 32 rfl) (dk ddL_law_p25 33 rfl) (dk ddL_law_p25 34 rfl) (dk ddL_law_p25 35 rfl) rfl (by first | rfl | decide) (by omega) hL ?_
  refine y_callV C (ci := 11) (As := [.int (xs (i + 1)), .int (xs (i + 2)), .int (xs (i + 3))]) hc2 mlL_130 rfl rfl g3_ g4_ hF.2 ⟨g5_, g6_⟩ rfl (Nat.le_of_ble_eq_true rfl) (dk ddL_law_p25 36 rfl) ?_
  rintro v_ G_ I_ L_ ⟨rfl, hr2⟩
  exact y_icmp_eq C (tgt := 1772) (dk ddL_law_p25 37 rfl) (by decide) (fun _ => kt _ _ _ hr2) (fun h => absurd rfl h)
set_option maxRecDepth 20000 in
/-- arm 27 -/
theorem law_arm_27 {p : Program} {l : Launch} {e : Env} {R : Room} {s : State} {m : MethodId} {args : Array Value} {below : List Frame} {meth : Method} {c : Code} {b0 : Nat} {nm : String} {ret : Option FieldType} {D : va_G} {T : Nat → ClassId} {o c0 u0 : Nat} {Q : State → Prop} {G : ax_G} {I : ax_I} {L : ax_L} {Rel : ax_G → ax_I → ax_L → Prop} {a1 a2 d Ls i : Nat} {xs : Nat → Int32}
    (C : ax_C p s m args meth c cL_law 4 RL nm ret D T o c0) (hX : va_X b0 Ls xs s s.heap) (hbl : b0 < s.heap.size) (hbo : b0 < o) (hi : i + 7 ≤ Ls) (hL : Ls < 2 ^ 31) (hF : ay_Rm Rel a1 a2 d c0 u0 R) (hr : Rel G I L)
    (hP : ay_PI l D T o d Rel a1 a2 yX10_put cX10_put 7 (some .int) yX11_put cX11_put 5 (some .int) [.int (xs (i + 1)), .int (xs (i + 2)), .long ((((xs (i + 3)).toInt64) <<< ((32 : Int32).toInt64 &&& 63)) ||| (((xs (i + 4)).toInt64) &&& 4294967295))])
    (kt : ∀ G I L, Rel G I L → ax_Y b0 p l e R s m args below meth c 4 D T o c0 u0 Q G I L 1772 [(3, .int (nI i)), (2, .ref a2), (1, .ref a1)] []) : ax_Y b0 p l e R s m args below meth c 4 D T o c0 u0 Q G I L 1388 [(3, .int (nI i)), (2, .ref a2), (1, .ref a1)] [] := by
  obtain ⟨v, hc⟩ := hP G I L hr
  obtain ⟨g1_, g2_, g3_, g4_, -, -, g5_, g6_⟩ := hF.1 G I L hr
  refine y_aload_n C (dk ddL_law_p26 0 rfl) rfl ?_
  refine y_sld C (i := i) (k := 1) hX hbl hbo (dk ddL_law_p26 1 rfl) (dk ddL_law_p26 2 rfl) (dk ddL_law_p26 3 rfl) (dk ddL_law_p26 4 rfl) (dk ddL_law_p26 5 rfl) rfl (by first | rfl | decide) (by omega) hL ?_
  refine y_sld C (i := i) (k := 2) hX hbl hbo (dk ddL_law_p26 6 rfl) (dk ddL_law_p26 7 rfl) (dk ddL_law_p26 8 rfl) (dk ddL_law_p26 9 rfl) (dk ddL_law_p26 10 rfl) rfl (by first | rfl | decide) (by omega) hL ?_
  refine y_sld C (i := i) (k := 3) hX hbl hbo (dk ddL_law_p26 11 rfl) (dk ddL_law_p26 12 rfl) (dk ddL_law_p26 13 rfl) (dk ddL_law_p26 14 rfl) (dk ddL_law_p26 15 rfl) rfl (by first | rfl | decide) (by omega) hL ?_
  refine y_i2l C (dk ddL_law_p26 16 rfl) ?_
  refine y_bipush C (v := 32) (dk ddL_law_p26 17 rfl) (by decide) ?_
  refine y_lshl C (dk ddL_law_p26 18 rfl) ?_
  refine y_sld C (i := i) (k := 4) hX hbl hbo (dk ddL_law_p26 19 rfl) (dk ddL_law_p26 20 rfl) (dk ddL_law_p26 21 rfl) (dk ddL_law_p26 22 rfl) (dk ddL_law_p26 23 rfl) rfl (by first | rfl | decide) (by omega) hL ?_
  refine y_i2l C (dk ddL_law_p26 24 rfl) ?_
  refine y_ldc2 C klL_89 (dk ddL_law_p26 25 rfl) ?_
  refine y_land C (dk ddL_law_p26 26 rfl) ?_
  refine y_lor C (dk ddL_law_p26 27 rfl) ?_
  refine y_callV C (ci := 10) (As := [.int (xs (i + 1)), .int (xs (i + 2)), .long ((((xs (i + 3)).toInt64) <<< ((32 : Int32).toInt64 &&& 63)) ||| (((xs (i + 4)).toInt64) &&& 4294967295))]) hc mlL_131 rfl rfl g1_ g2_ hF.2 ⟨g5_, g6_⟩ rfl (Nat.le_of_ble_eq_true rfl) (dk ddL_law_p26 28 rfl) ?_
  rintro v_ G_ I_ L_ ⟨rfl, rfl, hc2⟩
  refine y_aload_n C (dk ddL_law_p26 29 rfl) rfl ?_
  refine y_sld C (i := i) (k := 1) hX hbl hbo (dk ddL_law_p26 30 rfl) (dk ddL_law_p26 31 rfl) (dk ddL_law_p26 32 rfl) (dk ddL_law_p26 33 rfl) (dk ddL_law_p26 34 rfl) rfl (by first | rfl | decide) (by omega) hL ?_
  refine y_sld C (i := i) (k := 2) hX hbl hbo (dk ddL_law_p26 35 rfl) (dk ddL_law_p26 36 rfl) (dk ddL_law_p26 37 rfl) (dk ddL_law_p26 38 rfl) (dk ddL_law_p26 39 rfl) rfl (by first | rfl | decide) (by omega) hL ?_
  refine y_sld C (i := i) (k := 3) hX hbl hbo (dk ddL_law_p27 0 rfl) (dk ddL_law_p27 1 rfl) (dk ddL_law_p27 2 rfl) (dk ddL_law_p27 3 rfl) (dk ddL_law_p27 4 rfl) rfl (by first | rfl | decide) (by omega) hL ?_
  refine y_i2l C (dk ddL_law_p27 5 rfl) ?_
  refine y_bipush C (v := 32) (dk ddL_law_p27 6 rfl) (by decide) ?_
  refine y_lshl C (dk ddL_law_p27 7 rfl) ?_
  refine y_sld C (i := i) (k := 4) hX hbl hbo (dk ddL_law_p27 8 rfl) (dk ddL_law_p27 9 rfl) (dk ddL_law_p27 10 rfl) (dk ddL_law_p27 11 rfl) (dk ddL_law_p27 12 rfl) rfl (by first | rfl | decide) (by omega) hL ?_
  refine y_i2l C (dk ddL_law_p27 13 rfl) ?_
  refine y_ldc2 C klL_89 (dk ddL_law_p27 14 rfl) ?_
  refine y_land C (dk ddL_law_p27 15 rfl) ?_
  refine y_lor C (dk ddL_law_p27 16 rfl) ?_
  refine y_callV C (ci := 11) (As := [.int (xs (i + 1)), .int (xs (i + 2)), .long ((((xs (i + 3)).toInt64) <<< ((32 : Int32).toInt64 &&& 63)) ||| (((xs (i + 4)).toInt64) &&& 4294967295))]) hc2 mlL_135 rfl rfl g3_ g4_ hF.2 ⟨g5_, g6_⟩ rfl (Nat.le_of_ble_eq_true rfl) (dk ddL_law_p27 17 rfl) ?_
  rintro v_ G_ I_ L_ ⟨rfl, hr2⟩
  exact y_icmp_eq C (tgt := 1772) (dk ddL_law_p27 18 rfl) (by decide) (fun _ => kt _ _ _ hr2) (fun h => absurd rfl h)
set_option maxRecDepth 20000 in
/-- arm 28 -/
theorem law_arm_28 {p : Program} {l : Launch} {e : Env} {R : Room} {s : State} {m : MethodId} {args : Array Value} {below : List Frame} {meth : Method} {c : Code} {b0 : Nat} {nm : String} {ret : Option FieldType} {D : va_G} {T : Nat → ClassId} {o c0 u0 : Nat} {Q : State → Prop} {G : ax_G} {I : ax_I} {L : ax_L} {Rel : ax_G → ax_I → ax_L → Prop} {a1 a2 d Ls i : Nat} {xs : Nat → Int32}
    (C : ax_C p s m args meth c cL_law 4 RL nm ret D T o c0) (hX : va_X b0 Ls xs s s.heap) (hbl : b0 < s.heap.size) (hbo : b0 < o) (hi : i + 7 ≤ Ls) (hL : Ls < 2 ^ 31) (hF : ay_Rm Rel a1 a2 d c0 u0 R) (hr : Rel G I L)
    (hP : ay_PI l D T o d Rel a1 a2 yX10_item cX10_item 5 (some .int) yX11_item cX11_item 4 (some .int) [.int (xs (i + 1)), .int (xs (i + 2)), .int (xs (i + 3))])
    (kt : ∀ G I L, Rel G I L → ax_Y b0 p l e R s m args below meth c 4 D T o c0 u0 Q G I L 1772 [(3, .int (nI i)), (2, .ref a2), (1, .ref a1)] []) : ax_Y b0 p l e R s m args below meth c 4 D T o c0 u0 Q G I L 1461 [(3, .int (nI i)), (2, .ref a2), (1, .ref a1)] [] := by
  obtain ⟨v, hc⟩ := hP G I L hr
  obtain ⟨g1_, g2_, g3_, g4_, -, -, g5_, g6_⟩ := hF.1 G I L hr
  refine y_aload_n C (dk ddL_law_p27 21 rfl) rfl ?_
  refine y_sld C (i := i) (k := 1) hX hbl hbo (dk ddL_law_p27 22 rfl) (dk ddL_law_p27 23 rfl) (dk ddL_law_p27 24 rfl) (dk ddL_law_p27 25 rfl) (dk ddL_law_p27 26 rfl) rfl (by first | rfl | decide) (by omega) hL ?_
  refine y_sld C (i := i) (k := 2) hX hbl hbo (dk ddL_law_p27 27 rfl) (dk ddL_law_p27 28 rfl) (dk ddL_law_p27 29 rfl) (dk ddL_law_p27 30 rfl) (dk ddL_law_p27 31 rfl) rfl (by first | rfl | decide) (by omega) hL ?_
  refine y_sld C (i := i) (k := 3) hX hbl hbo (dk ddL_law_p27 32 rfl) (dk ddL_law_p27 33 rfl) (dk ddL_law_p27 34 rfl) (dk ddL_law_p27 35 rfl) (dk ddL_law_p27 36 rfl) rfl (by first | rfl | decide) (by omega) hL ?_
  refine y_callV C (ci := 10) (As := [.int (xs (i + 1)), .int (xs (i + 2)), .int (xs (i + 3))]) hc mlL_136 rfl rfl g1_ g2_ hF.2 ⟨g5_, g6_⟩ rfl (Nat.le_of_ble_eq_true rfl) (dk ddL_law_p27 37 rfl) ?_
  rintro v_ G_ I_ L_ ⟨rfl, rfl, hc2⟩
  refine y_aload_n C (dk ddL_law_p27 38 rfl) rfl ?_
  refine y_sld C (i := i) (k := 1) hX hbl hbo (dk ddL_law_p27 39 rfl) (dk ddL_law_p28 0 rfl) (dk ddL_law_p28 1 rfl) (dk ddL_law_p28 2 rfl) (dk ddL_law_p28 3 rfl) rfl (by first | rfl | decide) (by omega) hL ?_
  refine y_sld C (i := i) (k := 2) hX hbl hbo (dk ddL_law_p28 4 rfl) (dk ddL_law_p28 5 rfl) (dk ddL_law_p28 6 rfl) (dk ddL_law_p28 7 rfl) (dk ddL_law_p28 8 rfl) rfl (by first | rfl | decide) (by omega) hL ?_
  refine y_sld C (i := i) (k := 3) hX hbl hbo (dk ddL_law_p28 9 rfl) (dk ddL_law_p28 10 rfl) (dk ddL_law_p28 11 rfl) (dk ddL_law_p28 12 rfl) (dk ddL_law_p28 13 rfl) rfl (by first | rfl | decide) (by omega) hL ?_
  refine y_callV C (ci := 11) (As := [.int (xs (i + 1)), .int (xs (i + 2)), .int (xs (i + 3))]) hc2 mlL_139 rfl rfl g3_ g4_ hF.2 ⟨g5_, g6_⟩ rfl (Nat.le_of_ble_eq_true rfl) (dk ddL_law_p28 14 rfl) ?_
  rintro v_ G_ I_ L_ ⟨rfl, hr2⟩
  exact y_icmp_eq C (tgt := 1772) (dk ddL_law_p28 15 rfl) (by decide) (fun _ => kt _ _ _ hr2) (fun h => absurd rfl h)
set_option maxRecDepth 20000 in
/-- arm 29 -/
theorem law_arm_29 {p : Program} {l : Launch} {e : Env} {R : Room} {s : State} {m : MethodId} {args : Array Value} {below : List Frame} {meth : Method} {c : Code} {b0 : Nat} {nm : String} {ret : Option FieldType} {D : va_G} {T : Nat → ClassId} {o c0 u0 : Nat} {Q : State → Prop} {G : ax_G} {I : ax_I} {L : ax_L} {Rel : ax_G → ax_I → ax_L → Prop} {a1 a2 d Ls i : Nat} {xs : Nat → Int32}
    (C : ax_C p s m args meth c cL_law 4 RL nm ret D T o c0) (hX : va_X b0 Ls xs s s.heap) (hbl : b0 < s.heap.size) (hbo : b0 < o) (hi : i + 7 ≤ Ls) (hL : Ls < 2 ^ 31) (hF : ay_Rm Rel a1 a2 d c0 u0 R) (hr : Rel G I L)
    (hP : ay_PI l D T o d Rel a1 a2 yX10_lay cX10_lay 6 (some .int) yX11_lay cX11_lay 7 (some .int) [.int (xs (i + 1)), .int (xs (i + 2)), .int (xs (i + 3)), .int (xs (i + 4)), .int (xs (i + 5))])
    (kt : ∀ G I L, Rel G I L → ax_Y b0 p l e R s m args below meth c 4 D T o c0 u0 Q G I L 1772 [(3, .int (nI i)), (2, .ref a2), (1, .ref a1)] []) : ax_Y b0 p l e R s m args below meth c 4 D T o c0 u0 Q G I L 1504 [(3, .int (nI i)), (2, .ref a2), (1, .ref a1)] [] := by
  obtain ⟨v, hc⟩ := hP G I L hr
  obtain ⟨g1_, g2_, g3_, g4_, -, -, g5_, g6_⟩ := hF.1 G I L hr
  refine y_aload_n C (dk ddL_law_p28 18 rfl) rfl ?_
  refine y_sld C (i := i) (k := 1) hX hbl hbo (dk ddL_law_p28 19 rfl) (dk ddL_law_p28 20 rfl) (dk ddL_law_p28 21 rfl) (dk ddL_law_p28 22 rfl) (dk ddL_law_p28 23 rfl) rfl (by first | rfl | decide) (by omega) hL ?_
  refine y_sld C (i := i) (k := 2) hX hbl hbo (dk ddL_law_p28 24 rfl) (dk ddL_law_p28 25 rfl) (dk ddL_law_p28 26 rfl) (dk ddL_law_p28 27 rfl) (dk ddL_law_p28 28 rfl) rfl (by first | rfl | decide) (by omega) hL ?_
  refine y_sld C (i := i) (k := 3) hX hbl hbo (dk ddL_law_p28 29 rfl) (dk ddL_law_p28 30 rfl) (dk ddL_law_p28 31 rfl) (dk ddL_law_p28 32 rfl) (dk ddL_law_p28 33 rfl) rfl (by first | rfl | decide) (by omega) hL ?_
  refine y_sld C (i := i) (k := 4) hX hbl hbo (dk ddL_law_p28 34 rfl) (dk ddL_law_p28 35 rfl) (dk ddL_law_p28 36 rfl) (dk ddL_law_p28 37 rfl) (dk ddL_law_p28 38 rfl) rfl (by first | rfl | decide) (by omega) hL ?_
  refine y_sld C (i := i) (k := 5) hX hbl hbo (dk ddL_law_p28 39 rfl) (dk ddL_law_p29 0 rfl) (dk ddL_law_p29 1 rfl) (dk ddL_law_p29 2 rfl) (dk ddL_law_p29 3 rfl) rfl (by first | rfl | decide) (by omega) hL ?_
  refine y_callV C (ci := 10) (As := [.int (xs (i + 1)), .int (xs (i + 2)), .int (xs (i + 3)), .int (xs (i + 4)), .int (xs (i + 5))]) hc mlL_140 rfl rfl g1_ g2_ hF.2 ⟨g5_, g6_⟩ rfl (Nat.le_of_ble_eq_true rfl) (dk ddL_law_p29 4 rfl) ?_
  rintro v_ G_ I_ L_ ⟨rfl, rfl, hc2⟩
  refine y_aload_n C (dk ddL_law_p29 5 rfl) rfl ?_
  refine y_sld C (i := i) (k := 1) hX hbl hbo (dk ddL_law_p29 6 rfl) (dk ddL_law_p29 7 rfl) (dk ddL_law_p29 8 rfl) (dk ddL_law_p29 9 rfl) (dk ddL_law_p29 10 rfl) rfl (by first | rfl | decide) (by omega) hL ?_
  refine y_sld C (i := i) (k := 2) hX hbl hbo (dk ddL_law_p29 11 rfl) (dk ddL_law_p29 12 rfl) (dk ddL_law_p29 13 rfl) (dk ddL_law_p29 14 rfl) (dk ddL_law_p29 15 rfl) rfl (by first | rfl | decide) (by omega) hL ?_
  refine y_sld C (i := i) (k := 3) hX hbl hbo (dk ddL_law_p29 16 rfl) (dk ddL_law_p29 17 rfl) (dk ddL_law_p29 18 rfl) (dk ddL_law_p29 19 rfl) (dk ddL_law_p29 20 rfl) rfl (by first | rfl | decide) (by omega) hL ?_
  refine y_sld C (i := i) (k := 4) hX hbl hbo (dk ddL_law_p29 21 rfl) (dk ddL_law_p29 22 rfl) (dk ddL_law_p29 23 rfl) (dk ddL_law_p29 24 rfl) (dk ddL_law_p29 25 rfl) rfl (by first | rfl | decide) (by omega) hL ?_
  refine y_sld C (i := i) (k := 5) hX hbl hbo (dk ddL_law_p29 26 rfl) (dk ddL_law_p29 27 rfl) (dk ddL_law_p29 28 rfl) (dk ddL_law_p29 29 rfl) (dk ddL_law_p29 30 rfl) rfl (by first | rfl | decide) (by omega) hL ?_
  refine y_callV C (ci := 11) (As := [.int (xs (i + 1)), .int (xs (i + 2)), .int (xs (i + 3)), .int (xs (i + 4)), .int (xs (i + 5))]) hc2 mlL_144 rfl rfl g3_ g4_ hF.2 ⟨g5_, g6_⟩ rfl (Nat.le_of_ble_eq_true rfl) (dk ddL_law_p29 31 rfl) ?_
  rintro v_ G_ I_ L_ ⟨rfl, hr2⟩
  exact y_icmp_eq C (tgt := 1772) (dk ddL_law_p29 32 rfl) (by decide) (fun _ => kt _ _ _ hr2) (fun h => absurd rfl h)
set_option maxRecDepth 20000 in
/-- arm 30 -/
theorem law_arm_30 {p : Program} {l : Launch} {e : Env} {R : Room} {s : State} {m : MethodId} {args : Array Value} {below : List Frame} {meth : Method} {c : Code} {b0 : Nat} {nm : String} {ret : Option FieldType} {D : va_G} {T : Nat → ClassId} {o c0 u0 : Nat} {Q : State → Prop} {G : ax_G} {I : ax_I} {L : ax_L} {Rel : ax_G → ax_I → ax_L → Prop} {a1 a2 d Ls i : Nat} {xs : Nat → Int32}
    (C : ax_C p s m args meth c cL_law 4 RL nm ret D T o c0) (hX : va_X b0 Ls xs s s.heap) (hbl : b0 < s.heap.size) (hbo : b0 < o) (hi : i + 7 ≤ Ls) (hL : Ls < 2 ^ 31) (hF : ay_Rm Rel a1 a2 d c0 u0 R) (hr : Rel G I L)
    (hP : ay_PI l D T o d Rel a1 a2 yX10_hold cX10_hold 3 (some .int) yX11_hold cX11_hold 4 (some .int) [.int (xs (i + 1)), .int (xs (i + 2))])
    (kt : ∀ G I L, Rel G I L → ax_Y b0 p l e R s m args below meth c 4 D T o c0 u0 Q G I L 1772 [(3, .int (nI i)), (2, .ref a2), (1, .ref a1)] []) : ax_Y b0 p l e R s m args below meth c 4 D T o c0 u0 Q G I L 1567 [(3, .int (nI i)), (2, .ref a2), (1, .ref a1)] [] := by
  obtain ⟨v, hc⟩ := hP G I L hr
  obtain ⟨g1_, g2_, g3_, g4_, -, -, g5_, g6_⟩ := hF.1 G I L hr
  refine y_aload_n C (dk ddL_law_p29 35 rfl) rfl ?_
  refine y_sld C (i := i) (k := 1) hX hbl hbo (dk ddL_law_p29 36 rfl) (dk ddL_law_p29 37 rfl) (dk ddL_law_p29 38 rfl) (dk ddL_law_p29 39 rfl) (dk ddL_law_p30 0 rfl) rfl (by first | rfl | decide) (by omega) hL ?_
  refine y_sld C (i := i) (k := 2) hX hbl hbo (dk ddL_law_p30 1 rfl) (dk ddL_law_p30 2 rfl) (dk ddL_law_p30 3 rfl) (dk ddL_law_p30 4 rfl) (dk ddL_law_p30 5 rfl) rfl (by first | rfl | decide) (by omega) hL ?_
  refine y_callV C (ci := 10) (As := [.int (xs (i + 1)), .int (xs (i + 2))]) hc mlL_145 rfl rfl g1_ g2_ hF.2 ⟨g5_, g6_⟩ rfl (Nat.le_of_ble_eq_true rfl) (dk ddL_law_p30 6 rfl) ?_
  rintro v_ G_ I_ L_ ⟨rfl, rfl, hc2⟩
  refine y_aload_n C (dk ddL_law_p30 7 rfl) rfl ?_
  refine y_sld C (i := i) (k := 1) hX hbl hbo (dk ddL_law_p30 8 rfl) (dk ddL_law_p30 9 rfl) (dk ddL_law_p30 10 rfl) (dk ddL_law_p30 11 rfl) (dk ddL_law_p30 12 rfl) rfl (by first | rfl | decide) (by omega) hL ?_
  refine y_sld C (i := i) (k := 2) hX hbl hbo (dk ddL_law_p30 13 rfl) (dk ddL_law_p30 14 rfl) (dk ddL_law_p30 15 rfl) (dk ddL_law_p30 16 rfl) (dk ddL_law_p30 17 rfl) rfl (by first | rfl | decide) (by omega) hL ?_
  refine y_callV C (ci := 11) (As := [.int (xs (i + 1)), .int (xs (i + 2))]) hc2 mlL_148 rfl rfl g3_ g4_ hF.2 ⟨g5_, g6_⟩ rfl (Nat.le_of_ble_eq_true rfl) (dk ddL_law_p30 18 rfl) ?_
  rintro v_ G_ I_ L_ ⟨rfl, hr2⟩
  exact y_icmp_eq C (tgt := 1772) (dk ddL_law_p30 19 rfl) (by decide) (fun _ => kt _ _ _ hr2) (fun h => absurd rfl h)
set_option maxRecDepth 20000 in
/-- arm 31 -/
theorem law_arm_31 {p : Program} {l : Launch} {e : Env} {R : Room} {s : State} {m : MethodId} {args : Array Value} {below : List Frame} {meth : Method} {c : Code} {b0 : Nat} {nm : String} {ret : Option FieldType} {D : va_G} {T : Nat → ClassId} {o c0 u0 : Nat} {Q : State → Prop} {G : ax_G} {I : ax_I} {L : ax_L} {Rel : ax_G → ax_I → ax_L → Prop} {a1 a2 d Ls i : Nat} {xs : Nat → Int32}
    (C : ax_C p s m args meth c cL_law 4 RL nm ret D T o c0) (hX : va_X b0 Ls xs s s.heap) (hbl : b0 < s.heap.size) (hbo : b0 < o) (hi : i + 7 ≤ Ls) (hL : Ls < 2 ^ 31) (hF : ay_Rm Rel a1 a2 d c0 u0 R) (hr : Rel G I L)
    (hP : ay_PI l D T o d Rel a1 a2 yX10_add cX10_add 6 (some .int) yX11_add cX11_add 5 (some .int) [.int (xs (i + 1)), .int (xs (i + 2))])
    (kt : ∀ G I L, Rel G I L → ax_Y b0 p l e R s m args below meth c 4 D T o c0 u0 Q G I L 1772 [(3, .int (nI i)), (2, .ref a2), (1, .ref a1)] []) : ax_Y b0 p l e R s m args below meth c 4 D T o c0 u0 Q G I L 1600 [(3, .int (nI i)), (2, .ref a2), (1, .ref a1)] [] := by
  obtain ⟨v, hc⟩ := hP G I L hr
  obtain ⟨g1_, g2_, g3_, g4_, -, -, g5_, g6_⟩ := hF.1 G I L hr
  refine y_aload_n C (dk ddL_law_p30 22 rfl) rfl ?_
  refine y_sld C (i := i) (k := 1) hX hbl hbo (dk ddL_law_p30 23 rfl) (dk ddL_law_p30 24 rfl) (dk ddL_law_p30 25 rfl) (dk ddL_law_p30 26 rfl) (dk ddL_law_p30 27 rfl) rfl (by first | rfl | decide) (by omega) hL ?_
  refine y_sld C (i := i) (k := 2) hX hbl hbo (dk ddL_law_p30 28 rfl) (dk ddL_law_p30 29 rfl) (dk ddL_law_p30 30 rfl) (dk ddL_law_p30 31 rfl) (dk ddL_law_p30 32 rfl) rfl (by first | rfl | decide) (by omega) hL ?_
  refine y_callV C (ci := 10) (As := [.int (xs (i + 1)), .int (xs (i + 2))]) hc mlL_149 rfl rfl g1_ g2_ hF.2 ⟨g5_, g6_⟩ rfl (Nat.le_of_ble_eq_true rfl) (dk ddL_law_p30 33 rfl) ?_
  rintro v_ G_ I_ L_ ⟨rfl, rfl, hc2⟩
  refine y_aload_n C (dk ddL_law_p30 34 rfl) rfl ?_
  refine y_sld C (i := i) (k := 1) hX hbl hbo (dk ddL_law_p30 35 rfl) (dk ddL_law_p30 36 rfl) (dk ddL_law_p30 37 rfl) (dk ddL_law_p30 38 rfl) (dk ddL_law_p30 39 rfl) rfl (by first | rfl | decide) (by omega) hL ?_
  refine y_sld C (i := i) (k := 2) hX hbl hbo (dk ddL_law_p31 0 rfl) (dk ddL_law_p31 1 rfl) (dk ddL_law_p31 2 rfl) (dk ddL_law_p31 3 rfl) (dk ddL_law_p31 4 rfl) rfl (by first | rfl | decide) (by omega) hL ?_
  refine y_callV C (ci := 11) (As := [.int (xs (i + 1)), .int (xs (i + 2))]) hc2 mlL_152 rfl rfl g3_ g4_ hF.2 ⟨g5_, g6_⟩ rfl (Nat.le_of_ble_eq_true rfl) (dk ddL_law_p31 5 rfl) ?_
  rintro v_ G_ I_ L_ ⟨rfl, hr2⟩
  exact y_icmp_eq C (tgt := 1772) (dk ddL_law_p31 6 rfl) (by decide) (fun _ => kt _ _ _ hr2) (fun h => absurd rfl h)
set_option maxRecDepth 20000 in
/-- arm 32 -/
theorem law_arm_32 {p : Program} {l : Launch} {e : Env} {R : Room} {s : State} {m : MethodId} {args : Array Value} {below : List Frame} {meth : Method} {c : Code} {b0 : Nat} {nm : String} {ret : Option FieldType} {D : va_G} {T : Nat → ClassId} {o c0 u0 : Nat} {Q : State → Prop} {G : ax_G} {I : ax_I} {L : ax_L} {Rel : ax_G → ax_I → ax_L → Prop} {a1 a2 d Ls i : Nat} {xs : Nat → Int32}
    (C : ax_C p s m args meth c cL_law 4 RL nm ret D T o c0) (hX : va_X b0 Ls xs s s.heap) (hbl : b0 < s.heap.size) (hbo : b0 < o) (hi : i + 7 ≤ Ls) (hL : Ls < 2 ^ 31) (hF : ay_Rm Rel a1 a2 d c0 u0 R) (hr : Rel G I L)
    (hP : ay_PI l D T o d Rel a1 a2 yX10_rest cX10_rest 4 (some .int) yX11_rest cX11_rest 4 (some .int) [.int (xs (i + 1))])
    (kt : ∀ G I L, Rel G I L → ax_Y b0 p l e R s m args below meth c 4 D T o c0 u0 Q G I L 1772 [(3, .int (nI i)), (2, .ref a2), (1, .ref a1)] []) : ax_Y b0 p l e R s m args below meth c 4 D T o c0 u0 Q G I L 1633 [(3, .int (nI i)), (2, .ref a2), (1, .ref a1)] [] := by
  obtain ⟨v, hc⟩ := hP G I L hr
  obtain ⟨g1_, g2_, g3_, g4_, -, -, g5_, g6_⟩ := hF.1 G I L hr
  refine y_aload_n C (dk ddL_law_p31 9 rfl) rfl ?_
  refine y_sld C (i := i) (k := 1) hX hbl hbo (dk ddL_law_p31 10 rfl) (dk ddL_law_p31 11 rfl) (dk ddL_law_p31 12 rfl) (dk ddL_law_p31 13 rfl) (dk ddL_law_p31 14 rfl) rfl (by first | rfl | decide) (by omega) hL ?_
  refine y_callV C (ci := 10) (As := [.int (xs (i + 1))]) hc mlL_153 rfl rfl g1_ g2_ hF.2 ⟨g5_, g6_⟩ rfl (Nat.le_of_ble_eq_true rfl) (dk ddL_law_p31 15 rfl) ?_
  rintro v_ G_ I_ L_ ⟨rfl, rfl, hc2⟩
  refine y_aload_n C (dk ddL_law_p31 16 rfl) rfl ?_
  refine y_sld C (i := i) (k := 1) hX hbl hbo (dk ddL_law_p31 17 rfl) (dk ddL_law_p31 18 rfl) (dk ddL_law_p31 19 rfl) (dk ddL_law_p31 20 rfl) (dk ddL_law_p31 21 rfl) rfl (by first | rfl | decide) (by omega) hL ?_
  refine y_callV C (ci := 11) (As := [.int (xs (i + 1))]) hc2 mlL_156 rfl rfl g3_ g4_ hF.2 ⟨g5_, g6_⟩ rfl (Nat.le_of_ble_eq_true rfl) (dk ddL_law_p31 22 rfl) ?_
  rintro v_ G_ I_ L_ ⟨rfl, hr2⟩
  exact y_icmp_eq C (tgt := 1772) (dk ddL_law_p31 23 rfl) (by decide) (fun _ => kt _ _ _ hr2) (fun h => absurd rfl h)
set_option maxRecDepth 20000 in
/-- arm 33 -/
theorem law_arm_33 {p : Program} {l : Launch} {e : Env} {R : Room} {s : State} {m : MethodId} {args : Array Value} {below : List Frame} {meth : Method} {c : Code} {b0 : Nat} {nm : String} {ret : Option FieldType} {D : va_G} {T : Nat → ClassId} {o c0 u0 : Nat} {Q : State → Prop} {G : ax_G} {I : ax_I} {L : ax_L} {Rel : ax_G → ax_I → ax_L → Prop} {a1 a2 d Ls i : Nat} {xs : Nat → Int32}
    (C : ax_C p s m args meth c cL_law 4 RL nm ret D T o c0) (hX : va_X b0 Ls xs s s.heap) (hbl : b0 < s.heap.size) (hbo : b0 < o) (hi : i + 7 ≤ Ls) (hL : Ls < 2 ^ 31) (hF : ay_Rm Rel a1 a2 d c0 u0 R) (hr : Rel G I L)
    (hP : ay_PJ l D T o d Rel a1 a2 yX10_lies cX10_lies 4 (some .long) yX11_lies cX11_lies 3 (some .long) [.int (xs (i + 1)), .int (xs (i + 2))])
    (kt : ∀ G I L, Rel G I L → ax_Y b0 p l e R s m args below meth c 4 D T o c0 u0 Q G I L 1772 [(3, .int (nI i)), (2, .ref a2), (1, .ref a1)] []) : ax_Y b0 p l e R s m args below meth c 4 D T o c0 u0 Q G I L 1656 [(3, .int (nI i)), (2, .ref a2), (1, .ref a1)] [] := by
  obtain ⟨v, hc⟩ := hP G I L hr
  obtain ⟨g1_, g2_, g3_, g4_, -, -, g5_, g6_⟩ := hF.1 G I L hr
  refine y_aload_n C (dk ddL_law_p31 26 rfl) rfl ?_
  refine y_sld C (i := i) (k := 1) hX hbl hbo (dk ddL_law_p31 27 rfl) (dk ddL_law_p31 28 rfl) (dk ddL_law_p31 29 rfl) (dk ddL_law_p31 30 rfl) (dk ddL_law_p31 31 rfl) rfl (by first | rfl | decide) (by omega) hL ?_
  refine y_sld C (i := i) (k := 2) hX hbl hbo (dk ddL_law_p31 32 rfl) (dk ddL_law_p31 33 rfl) (dk ddL_law_p31 34 rfl) (dk ddL_law_p31 35 rfl) (dk ddL_law_p31 36 rfl) rfl (by first | rfl | decide) (by omega) hL ?_
  refine y_callV C (ci := 10) (As := [.int (xs (i + 1)), .int (xs (i + 2))]) hc mlL_157 rfl rfl g1_ g2_ hF.2 ⟨g5_, g6_⟩ rfl (Nat.le_of_ble_eq_true rfl) (dk ddL_law_p31 37 rfl) ?_
  rintro v_ G_ I_ L_ ⟨rfl, rfl, hc2⟩
  refine y_aload_n C (dk ddL_law_p31 38 rfl) rfl ?_
  refine y_sld C (i := i) (k := 1) hX hbl hbo (dk ddL_law_p31 39 rfl) (dk ddL_law_p32 0 rfl) (dk ddL_law_p32 1 rfl) (dk ddL_law_p32 2 rfl) (dk ddL_law_p32 3 rfl) rfl (by first | rfl | decide) (by omega) hL ?_
  refine y_sld C (i := i) (k := 2) hX hbl hbo (dk ddL_law_p32 4 rfl) (dk ddL_law_p32 5 rfl) (dk ddL_law_p32 6 rfl) (dk ddL_law_p32 7 rfl) (dk ddL_law_p32 8 rfl) rfl (by first | rfl | decide) (by omega) hL ?_
  refine y_callV C (ci := 11) (As := [.int (xs (i + 1)), .int (xs (i + 2))]) hc2 mlL_161 rfl rfl g3_ g4_ hF.2 ⟨g5_, g6_⟩ rfl (Nat.le_of_ble_eq_true rfl) (dk ddL_law_p32 9 rfl) ?_
  rintro v_ G_ I_ L_ ⟨rfl, hr2⟩
  exact y_lc_eq C (tgt := 1772) (dk ddL_law_p32 10 rfl) (dk ddL_law_p32 11 rfl) (by decide) (fun _ => kt _ _ _ hr2) (fun h => absurd rfl h)
set_option maxRecDepth 20000 in
/-- arm 34 -/
theorem law_arm_34 {p : Program} {l : Launch} {e : Env} {R : Room} {s : State} {m : MethodId} {args : Array Value} {below : List Frame} {meth : Method} {c : Code} {b0 : Nat} {nm : String} {ret : Option FieldType} {D : va_G} {T : Nat → ClassId} {o c0 u0 : Nat} {Q : State → Prop} {G : ax_G} {I : ax_I} {L : ax_L} {Rel : ax_G → ax_I → ax_L → Prop} {a1 a2 d Ls i : Nat} {xs : Nat → Int32}
    (C : ax_C p s m args meth c cL_law 4 RL nm ret D T o c0) (hX : va_X b0 Ls xs s s.heap) (hbl : b0 < s.heap.size) (hbo : b0 < o) (hi : i + 7 ≤ Ls) (hL : Ls < 2 ^ 31) (hF : ay_Rm Rel a1 a2 d c0 u0 R) (hr : Rel G I L)
    (hP : ay_PI l D T o d Rel a1 a2 yX10_taken cX10_taken 5 (some .int) yX11_taken cX11_taken 3 (some .int) [.int (xs (i + 1)), .int (xs (i + 2))])
    (kt : ∀ G I L, Rel G I L → ax_Y b0 p l e R s m args below meth c 4 D T o c0 u0 Q G I L 1772 [(3, .int (nI i)), (2, .ref a2), (1, .ref a1)] []) : ax_Y b0 p l e R s m args below meth c 4 D T o c0 u0 Q G I L 1690 [(3, .int (nI i)), (2, .ref a2), (1, .ref a1)] [] := by
  obtain ⟨v, hc⟩ := hP G I L hr
  obtain ⟨g1_, g2_, g3_, g4_, -, -, g5_, g6_⟩ := hF.1 G I L hr
  refine y_aload_n C (dk ddL_law_p32 14 rfl) rfl ?_
  refine y_sld C (i := i) (k := 1) hX hbl hbo (dk ddL_law_p32 15 rfl) (dk ddL_law_p32 16 rfl) (dk ddL_law_p32 17 rfl) (dk ddL_law_p32 18 rfl) (dk ddL_law_p32 19 rfl) rfl (by first | rfl | decide) (by omega) hL ?_
  refine y_sld C (i := i) (k := 2) hX hbl hbo (dk ddL_law_p32 20 rfl) (dk ddL_law_p32 21 rfl) (dk ddL_law_p32 22 rfl) (dk ddL_law_p32 23 rfl) (dk ddL_law_p32 24 rfl) rfl (by first | rfl | decide) (by omega) hL ?_
  refine y_callV C (ci := 10) (As := [.int (xs (i + 1)), .int (xs (i + 2))]) hc mlL_162 rfl rfl g1_ g2_ hF.2 ⟨g5_, g6_⟩ rfl (Nat.le_of_ble_eq_true rfl) (dk ddL_law_p32 25 rfl) ?_
  rintro v_ G_ I_ L_ ⟨rfl, rfl, hc2⟩
  refine y_aload_n C (dk ddL_law_p32 26 rfl) rfl ?_
  refine y_sld C (i := i) (k := 1) hX hbl hbo (dk ddL_law_p32 27 rfl) (dk ddL_law_p32 28 rfl) (dk ddL_law_p32 29 rfl) (dk ddL_law_p32 30 rfl) (dk ddL_law_p32 31 rfl) rfl (by first | rfl | decide) (by omega) hL ?_
  refine y_sld C (i := i) (k := 2) hX hbl hbo (dk ddL_law_p32 32 rfl) (dk ddL_law_p32 33 rfl) (dk ddL_law_p32 34 rfl) (dk ddL_law_p32 35 rfl) (dk ddL_law_p32 36 rfl) rfl (by first | rfl | decide) (by omega) hL ?_
  refine y_callV C (ci := 11) (As := [.int (xs (i + 1)), .int (xs (i + 2))]) hc2 mlL_165 rfl rfl g3_ g4_ hF.2 ⟨g5_, g6_⟩ rfl (Nat.le_of_ble_eq_true rfl) (dk ddL_law_p32 37 rfl) ?_
  rintro v_ G_ I_ L_ ⟨rfl, hr2⟩
  exact y_icmp_eq C (tgt := 1772) (dk ddL_law_p32 38 rfl) (by decide) (fun _ => kt _ _ _ hr2) (fun h => absurd rfl h)
set_option maxRecDepth 20000 in
/-- arm 35 -/
theorem law_arm_35 {p : Program} {l : Launch} {e : Env} {R : Room} {s : State} {m : MethodId} {args : Array Value} {below : List Frame} {meth : Method} {c : Code} {b0 : Nat} {nm : String} {ret : Option FieldType} {D : va_G} {T : Nat → ClassId} {o c0 u0 : Nat} {Q : State → Prop} {G : ax_G} {I : ax_I} {L : ax_L} {Rel : ax_G → ax_I → ax_L → Prop} {a1 a2 d Ls i : Nat} {xs : Nat → Int32}
    (C : ax_C p s m args meth c cL_law 4 RL nm ret D T o c0) (hX : va_X b0 Ls xs s s.heap) (hbl : b0 < s.heap.size) (hbo : b0 < o) (hi : i + 7 ≤ Ls) (hL : Ls < 2 ^ 31) (hF : ay_Rm Rel a1 a2 d c0 u0 R) (hr : Rel G I L)
    (hP : ay_PI l D T o d Rel a1 a2 yX10_many cX10_many 2 (some .int) yX11_many cX11_many 2 (some .int) [.int (xs (i + 1))])
    (kt : ∀ G I L, Rel G I L → ax_Y b0 p l e R s m args below meth c 4 D T o c0 u0 Q G I L 1772 [(3, .int (nI i)), (2, .ref a2), (1, .ref a1)] []) : ax_Y b0 p l e R s m args below meth c 4 D T o c0 u0 Q G I L 1723 [(3, .int (nI i)), (2, .ref a2), (1, .ref a1)] [] := by
  obtain ⟨v, hc⟩ := hP G I L hr
  obtain ⟨g1_, g2_, g3_, g4_, -, -, g5_, g6_⟩ := hF.1 G I L hr
  refine y_aload_n C (dk ddL_law_p33 1 rfl) rfl ?_
  refine y_sld C (i := i) (k := 1) hX hbl hbo (dk ddL_law_p33 2 rfl) (dk ddL_law_p33 3 rfl) (dk ddL_law_p33 4 rfl) (dk ddL_law_p33 5 rfl) (dk ddL_law_p33 6 rfl) rfl (by first | rfl | decide) (by omega) hL ?_
  refine y_callV C (ci := 10) (As := [.int (xs (i + 1))]) hc mlL_166 rfl rfl g1_ g2_ hF.2 ⟨g5_, g6_⟩ rfl (Nat.le_of_ble_eq_true rfl) (dk ddL_law_p33 7 rfl) ?_
  rintro v_ G_ I_ L_ ⟨rfl, rfl, hc2⟩
  refine y_aload_n C (dk ddL_law_p33 8 rfl) rfl ?_
  refine y_sld C (i := i) (k := 1) hX hbl hbo (dk ddL_law_p33 9 rfl) (dk ddL_law_p33 10 rfl) (dk ddL_law_p33 11 rfl) (dk ddL_law_p33 12 rfl) (dk ddL_law_p33 13 rfl) rfl (by first | rfl | decide) (by omega) hL ?_
  refine y_callV C (ci := 11) (As := [.int (xs (i + 1))]) hc2 mlL_169 rfl rfl g3_ g4_ hF.2 ⟨g5_, g6_⟩ rfl (Nat.le_of_ble_eq_true rfl) (dk ddL_law_p33 14 rfl) ?_
  rintro v_ G_ I_ L_ ⟨rfl, hr2⟩
  exact y_icmp_eq C (tgt := 1772) (dk ddL_law_p33 15 rfl) (by decide) (fun _ => kt _ _ _ hr2) (fun h => absurd rfl h)
set_option maxRecDepth 20000 in
/-- arm 36 -/
theorem law_arm_36 {p : Program} {l : Launch} {e : Env} {R : Room} {s : State} {m : MethodId} {args : Array Value} {below : List Frame} {meth : Method} {c : Code} {b0 : Nat} {nm : String} {ret : Option FieldType} {D : va_G} {T : Nat → ClassId} {o c0 u0 : Nat} {Q : State → Prop} {G : ax_G} {I : ax_I} {L : ax_L} {Rel : ax_G → ax_I → ax_L → Prop} {a1 a2 d Ls i : Nat} {xs : Nat → Int32}
    (C : ax_C p s m args meth c cL_law 4 RL nm ret D T o c0) (hX : va_X b0 Ls xs s s.heap) (hbl : b0 < s.heap.size) (hbo : b0 < o) (hi : i + 7 ≤ Ls) (hL : Ls < 2 ^ 31) (hF : ay_Rm Rel a1 a2 d c0 u0 R) (hr : Rel G I L)
    (hP : ay_PI l D T o d Rel a1 a2 yX10_keep cX10_keep 1 (some .int) yX11_keep cX11_keep 1 (some .int) [])
    (kt : ∀ G I L, Rel G I L → ax_Y b0 p l e R s m args below meth c 4 D T o c0 u0 Q G I L 1772 [(3, .int (nI i)), (2, .ref a2), (1, .ref a1)] []) : ax_Y b0 p l e R s m args below meth c 4 D T o c0 u0 Q G I L 1746 [(3, .int (nI i)), (2, .ref a2), (1, .ref a1)] [] := by
  obtain ⟨v, hc⟩ := hP G I L hr
  obtain ⟨g1_, g2_, g3_, g4_, -, -, g5_, g6_⟩ := hF.1 G I L hr
  refine y_aload_n C (dk ddL_law_p33 18 rfl) rfl ?_
  refine y_callV C (ci := 10) (As := []) hc mlL_170 rfl rfl g1_ g2_ hF.2 ⟨g5_, g6_⟩ rfl (Nat.le_of_ble_eq_true rfl) (dk ddL_law_p33 19 rfl) ?_
  rintro v_ G_ I_ L_ ⟨rfl, rfl, hc2⟩
  refine y_aload_n C (dk ddL_law_p33 20 rfl) rfl ?_
  refine y_callV C (ci := 11) (As := []) hc2 mlL_173 rfl rfl g3_ g4_ hF.2 ⟨g5_, g6_⟩ rfl (Nat.le_of_ble_eq_true rfl) (dk ddL_law_p33 21 rfl) ?_
  rintro v_ G_ I_ L_ ⟨rfl, hr2⟩
  exact y_icmp_eq C (tgt := 1772) (dk ddL_law_p33 22 rfl) (by decide) (fun _ => kt _ _ _ hr2) (fun h => absurd rfl h)
set_option maxRecDepth 20000 in
/-- arm 37 -/
theorem law_arm_37 {p : Program} {l : Launch} {e : Env} {R : Room} {s : State} {m : MethodId} {args : Array Value} {below : List Frame} {meth : Method} {c : Code} {b0 : Nat} {nm : String} {ret : Option FieldType} {D : va_G} {T : Nat → ClassId} {o c0 u0 : Nat} {Q : State → Prop} {G : ax_G} {I : ax_I} {L : ax_L} {Rel : ax_G → ax_I → ax_L → Prop} {a1 a2 d Ls i : Nat} {xs : Nat → Int32}
    (C : ax_C p s m args meth c cL_law 4 RL nm ret D T o c0) (hX : va_X b0 Ls xs s s.heap) (hbl : b0 < s.heap.size) (hbo : b0 < o) (hi : i + 7 ≤ Ls) (hL : Ls < 2 ^ 31) (hF : ay_Rm Rel a1 a2 d c0 u0 R) (hr : Rel G I L)
    (hP : ay_PI l D T o d Rel a1 a2 yX10_again cX10_again 1 (some .int) yX11_again cX11_again 1 (some .int) [])
    (kt : ∀ G I L, Rel G I L → ax_Y b0 p l e R s m args below meth c 4 D T o c0 u0 Q G I L 1772 [(3, .int (nI i)), (2, .ref a2), (1, .ref a1)] []) : ax_Y b0 p l e R s m args below meth c 4 D T o c0 u0 Q G I L 1759 [(3, .int (nI i)), (2, .ref a2), (1, .ref a1)] [] := by
  obtain ⟨v, hc⟩ := hP G I L hr
  obtain ⟨g1_, g2_, g3_, g4_, -, -, g5_, g6_⟩ := hF.1 G I L hr
  refine y_aload_n C (dk ddL_law_p33 25 rfl) rfl ?_
  refine y_callV C (ci := 10) (As := []) hc mlL_174 rfl rfl g1_ g2_ hF.2 ⟨g5_, g6_⟩ rfl (Nat.le_of_ble_eq_true rfl) (dk ddL_law_p33 26 rfl) ?_
  rintro v_ G_ I_ L_ ⟨rfl, rfl, hc2⟩
  refine y_aload_n C (dk ddL_law_p33 27 rfl) rfl ?_
  refine y_callV C (ci := 11) (As := []) hc2 mlL_177 rfl rfl g3_ g4_ hF.2 ⟨g5_, g6_⟩ rfl (Nat.le_of_ble_eq_true rfl) (dk ddL_law_p33 28 rfl) ?_
  rintro v_ G_ I_ L_ ⟨rfl, hr2⟩
  exact y_icmp_eq C (tgt := 1772) (dk ddL_law_p33 29 rfl) (by decide) (fun _ => kt _ _ _ hr2) (fun h => absurd rfl h)

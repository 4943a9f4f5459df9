/-! ===== the law: its loop ===== -/
def law_P0 (l : Launch) (D : va_G) (T : Nat → ClassId) (o d : Nat) (Rel : ax_G → ax_I → ax_L → Prop) (a1 a2 : Nat) : Prop := ∀ x : Nat → Int32, ay_PI l D T o d Rel a1 a2 yX10_group cX10_group 4 (some .int) yX11_group cX11_group 5 (some .int) [.int (x 1), .int (x 2)]
def law_P1 (l : Launch) (D : va_G) (T : Nat → ClassId) (o d : Nat) (Rel : ax_G → ax_I → ax_L → Prop) (a1 a2 : Nat) : Prop := ∀ x : Nat → Int32, ay_PI l D T o d Rel a1 a2 yX10_relation cX10_relation 5 (some .int) yX11_relation cX11_relation 6 (some .int) [.int (x 1), .int (x 2), .int (x 3), .int (x 4)]
def law_P2 (l : Launch) (D : va_G) (T : Nat → ClassId) (o d : Nat) (Rel : ax_G → ax_I → ax_L → Prop) (a1 a2 : Nat) : Prop := ∀ x : Nat → Int32, ay_PI l D T o d Rel a1 a2 yX10_groupIs cX10_groupIs 3 (some .int) yX11_groupIs cX11_groupIs 3 (some .int) [.int (x 1), .int (x 2)]
def law_P3 (l : Launch) (D : va_G) (T : Nat → ClassId) (o d : Nat) (Rel : ax_G → ax_I → ax_L → Prop) (a1 a2 : Nat) : Prop := ∀ x : Nat → Int32, ay_PI l D T o d Rel a1 a2 yX10_ring cX10_ring 3 (some .int) yX11_ring cX11_ring 3 (some .int) [.int (x 1), .int (x 2)]
def law_P4 (l : Launch) (D : va_G) (T : Nat → ClassId) (o d : Nat) (Rel : ax_G → ax_I → ax_L → Prop) (a1 a2 : Nat) : Prop := ∀ x : Nat → Int32, ay_PI l D T o d Rel a1 a2 yX10_step cX10_step 3 (some .int) yX11_step cX11_step 3 (some .int) [.int (x 1), .int (x 2)]
def law_P5 (l : Launch) (D : va_G) (T : Nat → ClassId) (o d : Nat) (Rel : ax_G → ax_I → ax_L → Prop) (a1 a2 : Nat) : Prop := ∀ x : Nat → Int32, ay_PJ l D T o d Rel a1 a2 yX10_normal cX10_normal 6 (some .long) yX11_normal cX11_normal 6 (some .long) [.int (x 1), .int (x 2), .int (x 3), .int (x 4), .int (x 5)]
def law_P6 (l : Launch) (D : va_G) (T : Nat → ClassId) (o d : Nat) (Rel : ax_G → ax_I → ax_L → Prop) (a1 a2 : Nat) : Prop := ∀ x : Nat → Int32, ay_PI l D T o d Rel a1 a2 yX10_order cX10_order 5 (some .int) yX11_order cX11_order 13 (some .int) [.int (x 1), .int (x 2), .int (x 3), .int (x 4)]
def law_P7 (l : Launch) (D : va_G) (T : Nat → ClassId) (o d : Nat) (Rel : ax_G → ax_I → ax_L → Prop) (a1 a2 : Nat) : Prop := ∀ x : Nat → Int32, ay_PI l D T o d Rel a1 a2 yX10_same cX10_same 3 (some .int) yX11_same cX11_same 6 (some .int) [.int (x 1), .int (x 2)]
def law_P8 (l : Launch) (D : va_G) (T : Nat → ClassId) (o d : Nat) (Rel : ax_G → ax_I → ax_L → Prop) (a1 a2 : Nat) : Prop := ∀ x : Nat → Int32, ay_PI l D T o d Rel a1 a2 yX10_ofTwo cX10_ofTwo 5 (some .int) yX11_ofTwo cX11_ofTwo 5 (some .int) [.int (x 1), .int (x 2), .int (x 3), .int (x 4)]
def law_P9 (l : Launch) (D : va_G) (T : Nat → ClassId) (o d : Nat) (Rel : ax_G → ax_I → ax_L → Prop) (a1 a2 : Nat) : Prop := ∀ x : Nat → Int32, ay_PI l D T o d Rel a1 a2 yX10_span cX10_span 9 (some .int) yX11_span cX11_span 8 (some .int) [.int (x 1), .int (x 2), .int (x 3), .int (x 4)]
def law_P10 (l : Launch) (D : va_G) (T : Nat → ClassId) (o d : Nat) (Rel : ax_G → ax_I → ax_L → Prop) (a1 a2 : Nat) : Prop := ∀ x : Nat → Int32, ay_PI l D T o d Rel a1 a2 yX10_map cX10_map 4 (some .int) yX11_map cX11_map 5 (some .int) [.int (x 1), .int (x 2), .int (x 3)]
def law_P11 (l : Launch) (D : va_G) (T : Nat → ClassId) (o d : Nat) (Rel : ax_G → ax_I → ax_L → Prop) (a1 a2 : Nat) : Prop := ∀ x : Nat → Int32, ay_PI l D T o d Rel a1 a2 yX10_entry cX10_entry 7 (some .int) yX11_entry cX11_entry 6 (some .int) [.int (x 1), .int (x 2), .int (x 3), .int (x 4)]
def law_P12 (l : Launch) (D : va_G) (T : Nat → ClassId) (o d : Nat) (Rel : ax_G → ax_I → ax_L → Prop) (a1 a2 : Nat) : Prop := ∀ x : Nat → Int32, ay_PI l D T o d Rel a1 a2 yX10_at cX10_at 4 (some .int) yX11_at cX11_at 4 (some .int) [.int (x 1), .int (x 2), .int (x 3)]
def law_P13 (l : Launch) (D : va_G) (T : Nat → ClassId) (o d : Nat) (Rel : ax_G → ax_I → ax_L → Prop) (a1 a2 : Nat) : Prop := ∀ x : Nat → Int32, ay_PI l D T o d Rel a1 a2 yX10_mapIs cX10_mapIs 5 (some .int) yX11_mapIs cX11_mapIs 4 (some .int) [.int (x 1), .int (x 2)]
def law_P14 (l : Launch) (D : va_G) (T : Nat → ClassId) (o d : Nat) (Rel : ax_G → ax_I → ax_L → Prop) (a1 a2 : Nat) : Prop := ∀ x : Nat → Int32, ay_PJ l D T o d Rel a1 a2 yX10_image cX10_image 6 (some .long) yX11_image cX11_image 6 (some .long) [.int (x 1), .int (x 2), .int (x 3), .int (x 4), .int (x 5)]
def law_P15 (l : Launch) (D : va_G) (T : Nat → ClassId) (o d : Nat) (Rel : ax_G → ax_I → ax_L → Prop) (a1 a2 : Nat) : Prop := ∀ x : Nat → Int32, ay_PI l D T o d Rel a1 a2 yX10_part cX10_part 4 (some .int) yX11_part cX11_part 6 (some .int) [.int (x 1), .int (x 2), .int (x 3)]
def law_P16 (l : Launch) (D : va_G) (T : Nat → ClassId) (o d : Nat) (Rel : ax_G → ax_I → ax_L → Prop) (a1 a2 : Nat) : Prop := ∀ x : Nat → Int32, ay_PJ l D T o d Rel a1 a2 yX10_whence cX10_whence 6 (some .long) yX11_whence cX11_whence 6 (some .long) [.int (x 1), .int (x 2), .int (x 3), .int (x 4), .int (x 5)]
def law_P17 (l : Launch) (D : va_G) (T : Nat → ClassId) (o d : Nat) (Rel : ax_G → ax_I → ax_L → Prop) (a1 a2 : Nat) : Prop := ∀ x : Nat → Int32, ay_PI l D T o d Rel a1 a2 yX10_exact cX10_exact 3 (some .int) yX11_exact cX11_exact 3 (some .int) [.int (x 1), .int (x 2)]
def law_P18 (l : Launch) (D : va_G) (T : Nat → ClassId) (o d : Nat) (Rel : ax_G → ax_I → ax_L → Prop) (a1 a2 : Nat) : Prop := ∀ x : Nat → Int32, ay_PI l D T o d Rel a1 a2 yX10_feed cX10_feed 4 (some .int) yX11_feed cX11_feed 5 (some .int) [.long ((((x 1).toInt64) <<< ((32 : Int32).toInt64 &&& 63)) ||| (((x 2).toInt64) &&& 4294967295)), .int (x 3)]
def law_P19 (l : Launch) (D : va_G) (T : Nat → ClassId) (o d : Nat) (Rel : ax_G → ax_I → ax_L → Prop) (a1 a2 : Nat) : Prop := ∀ x : Nat → Int32, ay_PI l D T o d Rel a1 a2 yX10_text cX10_text 4 (some .int) yX11_text cX11_text 4 (some .int) [.int (x 1)]
def law_P20 (l : Launch) (D : va_G) (T : Nat → ClassId) (o d : Nat) (Rel : ax_G → ax_I → ax_L → Prop) (a1 a2 : Nat) : Prop := ∀ x : Nat → Int32, ay_PI l D T o d Rel a1 a2 yX10_diagram cX10_diagram 4 (some .int) yX11_diagram cX11_diagram 4 (some .int) [.int (x 1), .int (x 2)]
def law_P21 (l : Launch) (D : va_G) (T : Nat → ClassId) (o d : Nat) (Rel : ax_G → ax_I → ax_L → Prop) (a1 a2 : Nat) : Prop := ∀ x : Nat → Int32, ay_PJ l D T o d Rel a1 a2 yX10_connected cX10_connected 8 (some .long) yX11_connected cX11_connected 8 (some .long) [.int (x 1), .int (x 2), .int (x 3), .int (x 4), .int (x 5), .int (x 6)]
def law_P22 (l : Launch) (D : va_G) (T : Nat → ClassId) (o d : Nat) (Rel : ax_G → ax_I → ax_L → Prop) (a1 a2 : Nat) : Prop := ∀ x : Nat → Int32, ay_PI l D T o d Rel a1 a2 yX10_move cX10_move 3 (some .int) yX11_move cX11_move 5 (some .int) [.int (x 1), .int (x 2)]
def law_P23 (l : Launch) (D : va_G) (T : Nat → ClassId) (o d : Nat) (Rel : ax_G → ax_I → ax_L → Prop) (a1 a2 : Nat) : Prop := ∀ x : Nat → Int32, ay_PI l D T o d Rel a1 a2 yX10_stop cX10_stop 2 (some .int) yX11_stop cX11_stop 5 (some .int) [.int (x 1)]
def law_P24 (l : Launch) (D : va_G) (T : Nat → ClassId) (o d : Nat) (Rel : ax_G → ax_I → ax_L → Prop) (a1 a2 : Nat) : Prop := ∀ x : Nat → Int32, ay_PJ l D T o d Rel a1 a2 yX10_run cX10_run 8 (some .long) yX11_run cX11_run 7 (some .long) [.int (x 1), .int (x 2), .int (x 3), .int (x 4), .int (x 5)]
def law_P25 (l : Launch) (D : va_G) (T : Nat → ClassId) (o d : Nat) (Rel : ax_G → ax_I → ax_L → Prop) (a1 a2 : Nat) : Prop := ∀ x : Nat → Int32, ay_PI l D T o d Rel a1 a2 yX10_undo cX10_undo 1 (some .int) yX11_undo cX11_undo 1 (some .int) []
def law_P26 (l : Launch) (D : va_G) (T : Nat → ClassId) (o d : Nat) (Rel : ax_G → ax_I → ax_L → Prop) (a1 a2 : Nat) : Prop := ∀ x : Nat → Int32, ay_PI l D T o d Rel a1 a2 yX10_sheet cX10_sheet 4 (some .int) yX11_sheet cX11_sheet 5 (some .int) [.int (x 1), .int (x 2), .int (x 3)]
def law_P27 (l : Launch) (D : va_G) (T : Nat → ClassId) (o d : Nat) (Rel : ax_G → ax_I → ax_L → Prop) (a1 a2 : Nat) : Prop := ∀ x : Nat → Int32, ay_PI l D T o d Rel a1 a2 yX10_put cX10_put 7 (some .int) yX11_put cX11_put 5 (some .int) [.int (x 1), .int (x 2), .long ((((x 3).toInt64) <<< ((32 : Int32).toInt64 &&& 63)) ||| (((x 4).toInt64) &&& 4294967295))]
def law_P28 (l : Launch) (D : va_G) (T : Nat → ClassId) (o d : Nat) (Rel : ax_G → ax_I → ax_L → Prop) (a1 a2 : Nat) : Prop := ∀ x : Nat → Int32, ay_PI l D T o d Rel a1 a2 yX10_item cX10_item 5 (some .int) yX11_item cX11_item 4 (some .int) [.int (x 1), .int (x 2), .int (x 3)]
def law_P29 (l : Launch) (D : va_G) (T : Nat → ClassId) (o d : Nat) (Rel : ax_G → ax_I → ax_L → Prop) (a1 a2 : Nat) : Prop := ∀ x : Nat → Int32, ay_PI l D T o d Rel a1 a2 yX10_lay cX10_lay 6 (some .int) yX11_lay cX11_lay 7 (some .int) [.int (x 1), .int (x 2), .int (x 3), .int (x 4), .int (x 5)]
def law_P30 (l : Launch) (D : va_G) (T : Nat → ClassId) (o d : Nat) (Rel : ax_G → ax_I → ax_L → Prop) (a1 a2 : Nat) : Prop := ∀ x : Nat → Int32, ay_PI l D T o d Rel a1 a2 yX10_hold cX10_hold 3 (some .int) yX11_hold cX11_hold 4 (some .int) [.int (x 1), .int (x 2)]
def law_P31 (l : Launch) (D : va_G) (T : Nat → ClassId) (o d : Nat) (Rel : ax_G → ax_I → ax_L → Prop) (a1 a2 : Nat) : Prop := ∀ x : Nat → Int32, ay_PI l D T o d Rel a1 a2 yX10_add cX10_add 6 (some .int) yX11_add cX11_add 5 (some .int) [.int (x 1), .int (x 2)]
def law_P32 (l : Launch) (D : va_G) (T : Nat → ClassId) (o d : Nat) (Rel : ax_G → ax_I → ax_L → Prop) (a1 a2 : Nat) : Prop := ∀ x : Nat → Int32, ay_PI l D T o d Rel a1 a2 yX10_rest cX10_rest 4 (some .int) yX11_rest cX11_rest 4 (some .int) [.int (x 1)]
def law_P33 (l : Launch) (D : va_G) (T : Nat → ClassId) (o d : Nat) (Rel : ax_G → ax_I → ax_L → Prop) (a1 a2 : Nat) : Prop := ∀ x : Nat → Int32, ay_PJ l D T o d Rel a1 a2 yX10_lies cX10_lies 4 (some .long) yX11_lies cX11_lies 3 (some .long) [.int (x 1), .int (x 2)]
def law_P34 (l : Launch) (D : va_G) (T : Nat → ClassId) (o d : Nat) (Rel : ax_G → ax_I → ax_L → Prop) (a1 a2 : Nat) : Prop := ∀ x : Nat → Int32, ay_PI l D T o d Rel a1 a2 yX10_taken cX10_taken 5 (some .int) yX11_taken cX11_taken 3 (some .int) [.int (x 1), .int (x 2)]
def law_P35 (l : Launch) (D : va_G) (T : Nat → ClassId) (o d : Nat) (Rel : ax_G → ax_I → ax_L → Prop) (a1 a2 : Nat) : Prop := ∀ x : Nat → Int32, ay_PI l D T o d Rel a1 a2 yX10_many cX10_many 2 (some .int) yX11_many cX11_many 2 (some .int) [.int (x 1)]
def law_P36 (l : Launch) (D : va_G) (T : Nat → ClassId) (o d : Nat) (Rel : ax_G → ax_I → ax_L → Prop) (a1 a2 : Nat) : Prop := ∀ x : Nat → Int32, ay_PI l D T o d Rel a1 a2 yX10_keep cX10_keep 1 (some .int) yX11_keep cX11_keep 1 (some .int) []
def law_P37 (l : Launch) (D : va_G) (T : Nat → ClassId) (o d : Nat) (Rel : ax_G → ax_I → ax_L → Prop) (a1 a2 : Nat) : Prop := ∀ x : Nat → Int32, ay_PI l D T o d Rel a1 a2 yX10_again cX10_again 1 (some .int) yX11_again cX11_again 1 (some .int) []
theorem ay_end {Ls i : Nat} (hL : Ls < 2 ^ 30) (hi : i < 2 ^ 30) : (nI Ls - nI 7 < nI i) ↔ Ls < i + 7 := by
  rw [Int32.lt_iff_toInt_lt, pk_sub_toInt hL (by decide), nI_toInt (by omega)]
  omega
theorem ay_sw38 (v : Int32) : (∃ j : Nat, j < 38 ∧ v = nI j) ∨ (v.toInt < 0 ∨ 37 < v.toInt) := by
  by_cases h1 : v.toInt < 0
  · exact Or.inr (Or.inl h1)
  · by_cases h2 : 37 < v.toInt
    · exact Or.inr (Or.inr h2)
    · refine Or.inl ⟨v.toInt.toNat, by omega, ?_⟩
      apply Int32.toInt_inj.mp
      rw [nI_toInt (by omega)]
      omega
set_option maxRecDepth 20000 in
set_option maxHeartbeats 4000000 in
/-- the loop: from any place of the script on -/
theorem law_loop {p : Program} {l : Launch} {e : Env} {R : Room} {s : State} {m : MethodId} {args : Array Value} {below : List Frame} {meth : Method} {c : Code} {b0 : Nat} {nm : String} {ret : Option FieldType} {D : va_G} {T : Nat → ClassId} {o c0 u0 : Nat} {Q : State → Prop} {Rel : ax_G → ax_I → ax_L → Prop} {a1 a2 d Ls : Nat} {xs : Nat → Int32}
    (C : ax_C p s m args meth c cL_law 4 RL nm ret D T o c0) (hX : va_X b0 Ls xs s s.heap) (hbl : b0 < s.heap.size) (hbo : b0 < o) (hL : Ls ≤ 3584) (hF : ay_Rm Rel a1 a2 d c0 u0 R)
    (h0 : law_P0 l D T o d Rel a1 a2) (h1 : law_P1 l D T o d Rel a1 a2) (h2 : law_P2 l D T o d Rel a1 a2) (h3 : law_P3 l D T o d Rel a1 a2) (h4 : law_P4 l D T o d Rel a1 a2) (h5 : law_P5 l D T o d Rel a1 a2) (h6 : law_P6 l D T o d Rel a1 a2) (h7 : law_P7 l D T o d Rel a1 a2) (h8 : law_P8 l D T o d Rel a1 a2) (h9 : law_P9 l D T o d Rel a1 a2) (h10 : law_P10 l D T o d Rel a1 a2) (h11 : law_P11 l D T o d Rel a1 a2) (h12 : law_P12 l D T o d Rel a1 a2) (h13 : law_P13 l D T o d Rel a1 a2) (h14 : law_P14 l D T o d Rel a1 a2) (h15 : law_P15 l D T o d Rel a1 a2) (h16 : law_P16 l D T o d Rel a1 a2) (h17 : law_P17 l D T o d Rel a1 a2) (h18 : law_P18 l D T o d Rel a1 a2) (h19 : law_P19 l D T o d Rel a1 a2) (h20 : law_P20 l D T o d Rel a1 a2) (h21 : law_P21 l D T o d Rel a1 a2) (h22 : law_P22 l D T o d Rel a1 a2) (h23 : law_P23 l D T o d Rel a1 a2) (h24 : law_P24 l D T o d Rel a1 a2) (h25 : law_P25 l D T o d Rel a1 a2) (h26 : law_P26 l D T o d Rel a1 a2) (h27 : law_P27 l D T o d Rel a1 a2) (h28 : law_P28 l D T o d Rel a1 a2) (h29 : law_P29 l D T o d Rel a1 a2) (h30 : law_P30 l D T o d Rel a1 a2) (h31 : law_P31 l D T o d Rel a1 a2) (h32 : law_P32 l D T o d Rel a1 a2) (h33 : law_P33 l D T o d Rel a1 a2) (h34 : law_P34 l D T o d Rel a1 a2) (h35 : law_P35 l D T o d Rel a1 a2) (h36 : law_P36 l D T o d Rel a1 a2) (h37 : law_P37 l D T o d Rel a1 a2)
    (kE : ∀ G I L lv, Rel G I L → ax_Y b0 p l e R s m args below meth c 4 D T o c0 u0 Q G I L 1778 lv []) : ∀ (n i : Nat), Ls < i + 7 * (n + 1) → i ≤ 3591 → ∀ (G : ax_G) (I : ax_I) (L : ax_L), Rel G I L → ax_Y b0 p l e R s m args below meth c 4 D T o c0 u0 Q G I L 18 [(3, .int (nI i)), (2, .ref a2), (1, .ref a1)] [] := by
  intro n
  induction n with
  | zero =>
    intro i hn hi G I L hr
    refine y_iload_n C (dk ddL_law 10 rfl) rfl ?_
    refine y_slen C hX hbl hbo (dk ddL_law 11 rfl) (dk ddL_law 12 rfl) ?_
    refine y_bipush C (v := nI 7) (dk ddL_law 13 rfl) (by decide) ?_
    refine y_isub C (dk ddL_law 14 rfl) ?_
    exact y_icmp_gt C (tgt := 1778) (dk ddL_law 15 rfl) (by decide) (fun _ => kE G I L _ hr) (fun h => absurd ((ay_end (by omega) (by omega)).mpr (by omega)) h)
  | succ n ih =>
    intro i hn hi G I L hr
    refine y_iload_n C (dk ddL_law 10 rfl) rfl ?_
    refine y_slen C hX hbl hbo (dk ddL_law 11 rfl) (dk ddL_law 12 rfl) ?_
    refine y_bipush C (v := nI 7) (dk ddL_law 13 rfl) (by decide) ?_
    refine y_isub C (dk ddL_law 14 rfl) ?_
    refine y_icmp_gt C (tgt := 1778) (dk ddL_law 15 rfl) (by decide) (fun _ => kE G I L _ hr) (fun h => ?_)
    have hi7 : i + 7 ≤ Ls := Nat.le_of_not_lt (fun q => h ((ay_end (by omega) (by omega)).mpr q))
    have kt : ∀ G I L, Rel G I L → ax_Y b0 p l e R s m args below meth c 4 D T o c0 u0 Q G I L 1772 [(3, .int (nI i)), (2, .ref a2), (1, .ref a1)] [] := by
      intro G I L hr
      refine y_iinc C (v := nI (i + 7)) (lv' := [(3, .int (nI (i + 7))), (2, .ref a2), (1, .ref a1)]) (dk ddL_law_p33 32 rfl) rfl (nI_add i 7) (by decide) (by decide) rfl ?_
      refine y_goto C (tgt := 18) (dk ddL_law_p33 33 rfl) (by decide) ?_
      exact ih (i + 7) (by omega) (by omega) G I L hr
    refine y_sld0 C hX hbl hbo (dk ddL_law 16 rfl) (dk ddL_law 17 rfl) (dk ddL_law 18 rfl) rfl (by omega) (by omega) ?_
    refine y_bipush C (v := 63) (dk ddL_law 19 rfl) (by decide) ?_
    refine y_iand C (dk ddL_law 20 rfl) ?_
    generalize xs i &&& 63 = v
    rcases ay_sw38 v with ⟨j, hj, rfl⟩ | hv
    · match j, hj with
        | 0, _ =>
          refine y_tableIn C (off := 167) (tgt := 200) (dk ddL_law 21 rfl) (by decide) (by decide) rfl (by decide) ?_
          exact law_arm_0 C hX hbl hbo hi7 (by omega) hF hr (h0 (fun k => xs (i + k))) kt
        | 1, _ =>
          refine y_tableIn C (off := 200) (tgt := 233) (dk ddL_law 21 rfl) (by decide) (by decide) rfl (by decide) ?_
          exact law_arm_1 C hX hbl hbo hi7 (by omega) hF hr (h1 (fun k => xs (i + k))) kt
        | 2, _ =>
          refine y_tableIn C (off := 253) (tgt := 286) (dk ddL_law 21 rfl) (by decide) (by decide) rfl (by decide) ?_
          exact law_arm_2 C hX hbl hbo hi7 (by omega) hF hr (h2 (fun k => xs (i + k))) kt
        | 3, _ =>
          refine y_tableIn C (off := 286) (tgt := 319) (dk ddL_law 21 rfl) (by decide) (by decide) rfl (by decide) ?_
          exact law_arm_3 C hX hbl hbo hi7 (by omega) hF hr (h3 (fun k => xs (i + k))) kt
        | 4, _ =>
          refine y_tableIn C (off := 319) (tgt := 352) (dk ddL_law 21 rfl) (by decide) (by decide) rfl (by decide) ?_
          exact law_arm_4 C hX hbl hbo hi7 (by omega) hF hr (h4 (fun k => xs (i + k))) kt
        | 5, _ =>
          refine y_tableIn C (off := 352) (tgt := 385) (dk ddL_law 21 rfl) (by decide) (by decide) rfl (by decide) ?_
          exact law_arm_5 C hX hbl hbo hi7 (by omega) hF hr (h5 (fun k => xs (i + k))) kt
        | 6, _ =>
          refine y_tableIn C (off := 416) (tgt := 449) (dk ddL_law 21 rfl) (by decide) (by decide) rfl (by decide) ?_
          exact law_arm_6 C hX hbl hbo hi7 (by omega) hF hr (h6 (fun k => xs (i + k))) kt
        | 7, _ =>
          refine y_tableIn C (off := 469) (tgt := 502) (dk ddL_law 21 rfl) (by decide) (by decide) rfl (by decide) ?_
          exact law_arm_7 C hX hbl hbo hi7 (by omega) hF hr (h7 (fun k => xs (i + k))) kt
        | 8, _ =>
          refine y_tableIn C (off := 502) (tgt := 535) (dk ddL_law 21 rfl) (by decide) (by decide) rfl (by decide) ?_
          exact law_arm_8 C hX hbl hbo hi7 (by omega) hF hr (h8 (fun k => xs (i + k))) kt
        | 9, _ =>
          refine y_tableIn C (off := 555) (tgt := 588) (dk ddL_law 21 rfl) (by decide) (by decide) rfl (by decide) ?_
          exact law_arm_9 C hX hbl hbo hi7 (by omega) hF hr (h9 (fun k => xs (i + k))) kt
        | 10, _ =>
          refine y_tableIn C (off := 608) (tgt := 641) (dk ddL_law 21 rfl) (by decide) (by decide) rfl (by decide) ?_
          exact law_arm_10 C hX hbl hbo hi7 (by omega) hF hr (h10 (fun k => xs (i + k))) kt
        | 11, _ =>
          refine y_tableIn C (off := 651) (tgt := 684) (dk ddL_law 21 rfl) (by decide) (by decide) rfl (by decide) ?_
          exact law_arm_11 C hX hbl hbo hi7 (by omega) hF hr (h11 (fun k => xs (i + k))) kt
        | 12, _ =>
          refine y_tableIn C (off := 704) (tgt := 737) (dk ddL_law 21 rfl) (by decide) (by decide) rfl (by decide) ?_
          exact law_arm_12 C hX hbl hbo hi7 (by omega) hF hr (h12 (fun k => xs (i + k))) kt
        | 13, _ =>
          refine y_tableIn C (off := 747) (tgt := 780) (dk ddL_law 21 rfl) (by decide) (by decide) rfl (by decide) ?_
          exact law_arm_13 C hX hbl hbo hi7 (by omega) hF hr (h13 (fun k => xs (i + k))) kt
        | 14, _ =>
          refine y_tableIn C (off := 780) (tgt := 813) (dk ddL_law 21 rfl) (by decide) (by decide) rfl (by decide) ?_
          exact law_arm_14 C hX hbl hbo hi7 (by omega) hF hr (h14 (fun k => xs (i + k))) kt
        | 15, _ =>
          refine y_tableIn C (off := 844) (tgt := 877) (dk ddL_law 21 rfl) (by decide) (by decide) rfl (by decide) ?_
          exact law_arm_15 C hX hbl hbo hi7 (by omega) hF hr (h15 (fun k => xs (i + k))) kt
        | 16, _ =>
          refine y_tableIn C (off := 887) (tgt := 920) (dk ddL_law 21 rfl) (by decide) (by decide) rfl (by decide) ?_
          exact law_arm_16 C hX hbl hbo hi7 (by omega) hF hr (h16 (fun k => xs (i + k))) kt
        | 17, _ =>
          refine y_tableIn C (off := 951) (tgt := 984) (dk ddL_law 21 rfl) (by decide) (by decide) rfl (by decide) ?_
          exact law_arm_17 C hX hbl hbo hi7 (by omega) hF hr (h17 (fun k => xs (i + k))) kt
        | 18, _ =>
          refine y_tableIn C (off := 984) (tgt := 1017) (dk ddL_law 21 rfl) (by decide) (by decide) rfl (by decide) ?_
          exact law_arm_18 C hX hbl hbo hi7 (by omega) hF hr (h18 (fun k => xs (i + k))) kt
        | 19, _ =>
          refine y_tableIn C (off := 1047) (tgt := 1080) (dk ddL_law 21 rfl) (by decide) (by decide) rfl (by decide) ?_
          exact law_arm_19 C hX hbl hbo hi7 (by omega) hF hr (h19 (fun k => xs (i + k))) kt
        | 20, _ =>
          refine y_tableIn C (off := 1070) (tgt := 1103) (dk ddL_law 21 rfl) (by decide) (by decide) rfl (by decide) ?_
          exact law_arm_20 C hX hbl hbo hi7 (by omega) hF hr (h20 (fun k => xs (i + k))) kt
        | 21, _ =>
          refine y_tableIn C (off := 1103) (tgt := 1136) (dk ddL_law 21 rfl) (by decide) (by decide) rfl (by decide) ?_
          exact law_arm_21 C hX hbl hbo hi7 (by omega) hF hr (h21 (fun k => xs (i + k))) kt
        | 22, _ =>
          refine y_tableIn C (off := 1179) (tgt := 1212) (dk ddL_law 21 rfl) (by decide) (by decide) rfl (by decide) ?_
          exact law_arm_22 C hX hbl hbo hi7 (by omega) hF hr (h22 (fun k => xs (i + k))) kt
        | 23, _ =>
          refine y_tableIn C (off := 1212) (tgt := 1245) (dk ddL_law 21 rfl) (by decide) (by decide) rfl (by decide) ?_
          exact law_arm_23 C hX hbl hbo hi7 (by omega) hF hr (h23 (fun k => xs (i + k))) kt
        | 24, _ =>
          refine y_tableIn C (off := 1235) (tgt := 1268) (dk ddL_law 21 rfl) (by decide) (by decide) rfl (by decide) ?_
          exact law_arm_24 C hX hbl hbo hi7 (by omega) hF hr (h24 (fun k => xs (i + k))) kt
        | 25, _ =>
          refine y_tableIn C (off := 1299) (tgt := 1332) (dk ddL_law 21 rfl) (by decide) (by decide) rfl (by decide) ?_
          exact law_arm_25 C hX hbl hbo hi7 (by omega) hF hr (h25 (fun k => xs (i + k))) kt
        | 26, _ =>
          refine y_tableIn C (off := 1312) (tgt := 1345) (dk ddL_law 21 rfl) (by decide) (by decide) rfl (by decide) ?_
          exact law_arm_26 C hX hbl hbo hi7 (by omega) hF hr (h26 (fun k => xs (i + k))) kt
        | 27, _ =>
          refine y_tableIn C (off := 1355) (tgt := 1388) (dk ddL_law 21 rfl) (by decide) (by decide) rfl (by decide) ?_
          exact law_arm_27 C hX hbl hbo hi7 (by omega) hF hr (h27 (fun k => xs (i + k))) kt
        | 28, _ =>
          refine y_tableIn C (off := 1428) (tgt := 1461) (dk ddL_law 21 rfl) (by decide) (by decide) rfl (by decide) ?_
          exact law_arm_28 C hX hbl hbo hi7 (by omega) hF hr (h28 (fun k => xs (i + k))) kt
        | 29, _ =>
          refine y_tableIn C (off := 1471) (tgt := 1504) (dk ddL_law 21 rfl) (by decide) (by decide) rfl (by decide) ?_
          exact law_arm_29 C hX hbl hbo hi7 (by omega) hF hr (h29 (fun k => xs (i + k))) kt
        | 30, _ =>
          refine y_tableIn C (off := 1534) (tgt := 1567) (dk ddL_law 21 rfl) (by decide) (by decide) rfl (by decide) ?_
          exact law_arm_30 C hX hbl hbo hi7 (by omega) hF hr (h30 (fun k => xs (i + k))) kt
        | 31, _ =>
          refine y_tableIn C (off := 1567) (tgt := 1600) (dk ddL_law 21 rfl) (by decide) (by decide) rfl (by decide) ?_
          exact law_arm_31 C hX hbl hbo hi7 (by omega) hF hr (h31 (fun k => xs (i + k))) kt
        | 32, _ =>
          refine y_tableIn C (off := 1600) (tgt := 1633) (dk ddL_law 21 rfl) (by decide) (by decide) rfl (by decide) ?_
          exact law_arm_32 C hX hbl hbo hi7 (by omega) hF hr (h32 (fun k => xs (i + k))) kt
        | 33, _ =>
          refine y_tableIn C (off := 1623) (tgt := 1656) (dk ddL_law 21 rfl) (by decide) (by decide) rfl (by decide) ?_
          exact law_arm_33 C hX hbl hbo hi7 (by omega) hF hr (h33 (fun k => xs (i + k))) kt
        | 34, _ =>
          refine y_tableIn C (off := 1657) (tgt := 1690) (dk ddL_law 21 rfl) (by decide) (by decide) rfl (by decide) ?_
          exact law_arm_34 C hX hbl hbo hi7 (by omega) hF hr (h34 (fun k => xs (i + k))) kt
        | 35, _ =>
          refine y_tableIn C (off := 1690) (tgt := 1723) (dk ddL_law 21 rfl) (by decide) (by decide) rfl (by decide) ?_
          exact law_arm_35 C hX hbl hbo hi7 (by omega) hF hr (h35 (fun k => xs (i + k))) kt
        | 36, _ =>
          refine y_tableIn C (off := 1713) (tgt := 1746) (dk ddL_law 21 rfl) (by decide) (by decide) rfl (by decide) ?_
          exact law_arm_36 C hX hbl hbo hi7 (by omega) hF hr (h36 (fun k => xs (i + k))) kt
        | 37, _ =>
          refine y_tableIn C (off := 1726) (tgt := 1759) (dk ddL_law 21 rfl) (by decide) (by decide) rfl (by decide) ?_
          exact law_arm_37 C hX hbl hbo hi7 (by omega) hF hr (h37 (fun k => xs (i + k))) kt
        | j + 38, hj => exact absurd hj (by omega)
    · exact y_tableOut C (tgt := 1772) (dk ddL_law 21 rfl) hv (by decide) (kt G I L hr)

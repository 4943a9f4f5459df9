/-! ===== rows of references; Arrays.fill ===== -/
section AXR
variable {p : Program} {l : Launch} {e : Env} {R : Room} {s : State} {m : MethodId} {args : Array Value} {below : List Frame} {meth : Method} {c : Code}
variable {cc : ByteArray} {nL : Nat} {own nm : String} {ret : Option FieldType} {D : va_G} {T : Nat → ClassId} {o c0 u0 : Nat} {Q : State → Prop}
variable {G : ax_G} {I : ax_I} {L : ax_L} {pc : Nat} {lv : List (Nat × Value)} {st : List Value} {a b : Nat}
theorem x_newq (C : ax_C p s m args meth c cc nL own nm ret D T o c0) {index t n : Nat} {cn : String} (ht : (ax_tys T)[t]? = some (T t, .object cn)) (h1 : 2 < t) (h2 : t < 8) (hcl : Cond.classLink own index cn ∈ lw_use) (hov : Cond.arrayOver (.object cn) ∈ lw_use) (hn : n < 2 ^ 20) (hcells : ax_top G + 1 ≤ c0 + R.cells) (hslots : ax_used G + n ≤ u0 + R.slots) (hdg : decode cc pc = .ok (.anewarray index, 3))
    (kk : ax_X p l e R s m args below meth c nL D T o c0 u0 Q (ax_new G t n n) (ax_z I (ax_top G) 0) (ax_z L (ax_top G) 0) (pc + 3) lv (.ref (ax_top G) :: st)) : ax_X p l e R s m args below meth c nL D T o c0 u0 Q G I L pc lv (.int (nI n) :: st) := by
  intro H locs ls a1 a2 a3 a4 a5
  have hKK := C.2.2.2.2.2.1
  have hts := C.2.2.2.2.1
  have hk : ax_K (ax_new G t n n) (ax_top G) = t := ax_new_K G t n n
  refine va_newq (C := cn) (N' := n) C.1 C.2.1 C.2.2.2.1 (hts _ hcl) (C.2.2.2.2.2.2.2.2.2.2 _ hov) hKK a4 (ax_wsD T o G I L) a5 (fun q hq => by have := C.2.2.2.2.2.2.2.2.2.1; show o ≤ q; omega) (nI_pos (by omega)) (pk_cl (x := nI n) n rfl (by omega)) (by omega) (by omega) (by omega) hdg (fun q cA H1 hK' hP' hD' hS' => ?_)
  intro S hS X
  have hq := ax_fresh C a1 hP' hD' hS X
  subst hq
  have hcA : cA = T t := by
    have e1 := (hK'.2 (ax_tys T).length (cA, .object cn) (by rw [List.getElem?_append_right (Nat.le_refl _), Nat.sub_self]; rfl)).2
    have e2 := (hKK.2 t _ ht).2
    obtain ⟨_, _, _, _, _, f1⟩ := e1
    obtain ⟨_, _, _, _, _, f2⟩ := e2
    exact Option.some.inj (f1.symm.trans f2)
  subst hcA
  have he : ax_ent T o (ax_new G t n n) (ax_z I (ax_top G) 0) (ax_z L (ax_top G) 0) (ax_top G) = .inl (T t, n, .inr (.inr (.inr (.inr (fun _ => none))))) := by
    rw [ax_ent_r (by rw [hk]; exact h1) (by rw [hk]; exact h2), hk, ax_new_N, ax_new_R]
    rfl
  have k := kk H1 locs ls (by rw [ax_new_top]; omega) (by rw [ax_new_used]; omega) a3 (ax_P_of hP' (ax_new_push he)) hS'
  rw [ax_new_top, ax_new_used, show ax_top G + 1 - c0 = ax_top G - c0 + 1 by omega, show ax_used G + n - u0 = ax_used G - u0 + n by omega] at k
  exact k S hS X
theorem x_aast (C : ax_C p s m args meth c cc nL own nm ret D T o c0) {t ci n i : Nat} {r : vw_C} (ha : a < ax_top G) (hK : ax_K G a = t) (hN : ax_N G a = n) (h1 : 2 < t) (h2 : t < 8) (ht : (ax_tys T)[t]? = some (T t, .object r.1)) (hq : vwCl[ci]? = some r) (hb : b < ax_top G) (hKb : ax_K G b = 8 + ci) (hi : i < n) (hn : n < 2 ^ 31) (hdg : decode cc pc = .ok (.aastore, 1))
    (kk : ax_X p l e R s m args below meth c nL D T o c0 u0 Q (ax_gR G a i (some b)) I L (pc + 1) lv st) : ax_X p l e R s m args below meth c nL D T o c0 u0 Q G I L pc lv (.ref b :: .int (nI i) :: .ref a :: st) := by
  intro H locs ls a1 a2 a3 a4 a5
  refine va_astq C.1 C.2.1 C.2.2.2.2.2.1 a4 (ax_wsD T o G I L) a5 a t b ci (ax_at_r ha hK h1 h2) ht (ax_at_o hb hKb) hq (by rw [hN]; exact vp_in_nI hi hn) hdg (fun H1 locs1 hP hD hS => ?_)
  rw [pk_cl (x := nI i) i rfl (Nat.lt_trans hi hn)] at hP
  exact kk H1 locs1 ls a1 a2 a3 (ax_P_of hP (ax_put_r ha hK h1 h2 i b)) hS
end AXR
/-- the first so many places of a row are v -/
def ax_fl1 {α : Type} (a : Nat) (v : α) : Nat → (Nat → Nat → α) → Nat → Nat → α
  | 0, f => f
  | n + 1, f => ax_u (ax_fl1 a v n f) a n v
theorem ax_fl1_eq {α : Type} (a : Nat) (v : α) (n : Nat) (f : Nat → Nat → α) : ax_fl1 a v n f = fun q j => if q = a ∧ j < n then v else f q j := by
  induction n with
  | zero => funext q j; show f q j = _; rw [if_neg (by omega)]
  | succ n ih =>
    funext q j
    show ax_u (ax_fl1 a v n f) a n v q j = _
    rw [ih]
    unfold ax_u
    by_cases hq : q = a
    · by_cases hj : j = n
      · rw [if_pos hq, if_pos hj, if_pos (by omega)]
      · rw [if_pos hq, if_neg hj]
        by_cases hl : j < n
        · rw [if_pos (by omega)]
          exact if_pos ⟨hq, hl⟩
        · rw [if_neg (by omega)]
          exact if_neg (fun z => hl z.2)
    · rw [if_neg hq, if_neg (by omega)]
      exact if_neg (fun z => hq z.1)
set_option maxRecDepth 20000 in
/-- Arrays.fill -/
theorem k_J7_fill_53178 (l : Launch) (D : va_G) (T : Nat → ClassId) (o d : Nat) (G : ax_G) (I : ax_I) (L : ax_L) (a n : Nat) (v : Int32) (ha : a < ax_top G) (hK : ax_K G a = 0) (hN : ax_N G a = n) (hn : n < 2 ^ 31) (hd : 0 ≤ d) : ax_Con l D T o yJ7_fill_53178 cJ7_fill_53178 4 none d 0 0 [.ref a, .int v] G I L (fun r' G' I' L' => r' = none ∧ G = G' ∧ ax_fl1 a v n I = I' ∧ L = L') := by
  refine ax_enter (by decide +kernel) (Nat.le_of_ble_eq_true rfl) ?_
  intro p_ e_ s_ m_ args_ below_ meth_ c_ C _
  refine x_lvs (lv' := [(0, .ref a), (1, .int v)]) rfl ?_
  have hloop : ∀ (n_ k : Nat), k + n_ = n → ax_XM p_ l e_ s_ m_ args_ below_ meth_ c_ 4 D T o d 0 0 G (fun r' G' I' L' => r' = none ∧ G = G' ∧ ax_fl1 a v n I = I' ∧ L = L') G (ax_fl1 a v k I) L 5 [(2, .int (nI k)), (3, .int (nI n)), (0, .ref a), (1, .int v)] [] := by
    intro n_
    induction n_ with
    | zero =>
      intro k hk_
      rw [show k = n by omega]
      refine x_iload_n C (dk ddJ7_fill_53178 5 rfl) rfl ?_
      refine x_iload_n C (dk ddJ7_fill_53178 6 rfl) rfl ?_
      refine x_icmp_ge_n C (tgt := 20) (dk ddJ7_fill_53178 7 rfl) (by decide) (by omega) (by omega) (fun h7 => ?_) (fun h7 => ?_)
      · exact x_vret C rfl ⟨rfl, rfl, rfl, rfl⟩ rfl rfl (dk ddJ7_fill_53178 14 rfl)
      · exfalso
        omega
    | succ n_ ih_ =>
      intro k hk_
      refine x_iload_n C (dk ddJ7_fill_53178 5 rfl) rfl ?_
      refine x_iload_n C (dk ddJ7_fill_53178 6 rfl) rfl ?_
      refine x_icmp_ge_n C (tgt := 20) (dk ddJ7_fill_53178 7 rfl) (by decide) (by omega) (by omega) (fun h7 => ?_) (fun h7 => ?_)
      · exfalso
        omega
      · refine x_aload_n C (dk ddJ7_fill_53178 8 rfl) rfl ?_
        refine x_iload_n C (dk ddJ7_fill_53178 9 rfl) rfl ?_
        refine x_iload_n C (dk ddJ7_fill_53178 10 rfl) rfl ?_
        refine x_iast_n C ha hK hN (by omega) hn (dk ddJ7_fill_53178 11 rfl) ?_
        refine x_iinc C (v := nI (k + 1)) (lv' := [(2, .int (nI (k + 1))), (3, .int (nI n)), (0, .ref a), (1, .int v)]) (dk ddJ7_fill_53178 12 rfl) rfl (nI_add k 1) (by decide) rfl ?_
        refine x_goto C (tgt := 5) (dk ddJ7_fill_53178 13 rfl) (by decide) ?_
        refine x_sub [0, 1, 2, 3] (lv' := [(2, .int (nI (k + 1))), (3, .int (nI n)), (0, .ref a), (1, .int v)]) rfl ?_
        exact ih_ (k + 1) (by omega)
  refine x_iconst C (v := nI 0) (dk ddJ7_fill_53178 0 rfl) (by decide) ?_
  refine x_istore_n C (lv' := [(2, .int (nI 0)), (0, .ref a), (1, .int v)]) (dk ddJ7_fill_53178 1 rfl) (by decide) rfl ?_
  refine x_aload_n C (dk ddJ7_fill_53178 2 rfl) rfl ?_
  refine x_alen C (v := nI n) ha hK (by decide) (by rw [hN]) (dk ddJ7_fill_53178 3 rfl) ?_
  refine x_istore_n C (lv' := [(3, .int (nI n)), (2, .int (nI 0)), (0, .ref a), (1, .int v)]) (dk ddJ7_fill_53178 4 rfl) (by decide) rfl ?_
  refine x_sub [1, 0, 2, 3] (lv' := [(2, .int (nI 0)), (3, .int (nI n)), (0, .ref a), (1, .int v)]) rfl ?_
  exact hloop n 0 (by omega)
set_option maxRecDepth 20000 in
/-- Arrays.fill -/
theorem k_J7_fill_d0a16 (l : Launch) (D : va_G) (T : Nat → ClassId) (o d : Nat) (G : ax_G) (I : ax_I) (L : ax_L) (a n : Nat) (v : Int64) (ha : a < ax_top G) (hK : ax_K G a = 2) (hN : ax_N G a = n) (hn : n < 2 ^ 31) (hd : 0 ≤ d) : ax_Con l D T o yJ7_fill_d0a16 cJ7_fill_d0a16 5 none d 0 0 [.ref a, .long v] G I L (fun r' G' I' L' => r' = none ∧ G = G' ∧ I = I' ∧ ax_fl1 a v n L = L') := by
  refine ax_enter (by decide +kernel) (Nat.le_of_ble_eq_true rfl) ?_
  intro p_ e_ s_ m_ args_ below_ meth_ c_ C _
  refine x_lvs (lv' := [(0, .ref a), (1, .long v)]) rfl ?_
  have hloop : ∀ (n_ k : Nat), k + n_ = n → ax_XM p_ l e_ s_ m_ args_ below_ meth_ c_ 5 D T o d 0 0 G (fun r' G' I' L' => r' = none ∧ G = G' ∧ I = I' ∧ ax_fl1 a v n L = L') G I (ax_fl1 a v k L) 6 [(3, .int (nI k)), (4, .int (nI n)), (0, .ref a), (1, .long v)] [] := by
    intro n_
    induction n_ with
    | zero =>
      intro k hk_
      rw [show k = n by omega]
      refine x_iload_n C (dk ddJ7_fill_d0a16 5 rfl) rfl ?_
      refine x_iload C (dk ddJ7_fill_d0a16 6 rfl) rfl ?_
      refine x_icmp_ge_n C (tgt := 22) (dk ddJ7_fill_d0a16 7 rfl) (by decide) (by omega) (by omega) (fun h9 => ?_) (fun h9 => ?_)
      · exact x_vret C rfl ⟨rfl, rfl, rfl, rfl⟩ rfl rfl (dk ddJ7_fill_d0a16 14 rfl)
      · exfalso
        omega
    | succ n_ ih_ =>
      intro k hk_
      refine x_iload_n C (dk ddJ7_fill_d0a16 5 rfl) rfl ?_
      refine x_iload C (dk ddJ7_fill_d0a16 6 rfl) rfl ?_
      refine x_icmp_ge_n C (tgt := 22) (dk ddJ7_fill_d0a16 7 rfl) (by decide) (by omega) (by omega) (fun h9 => ?_) (fun h9 => ?_)
      · exfalso
        omega
      · refine x_aload_n C (dk ddJ7_fill_d0a16 8 rfl) rfl ?_
        refine x_iload_n C (dk ddJ7_fill_d0a16 9 rfl) rfl ?_
        refine x_lload_n C (dk ddJ7_fill_d0a16 10 rfl) rfl ?_
        refine x_last_n C ha hK hN (by omega) hn (dk ddJ7_fill_d0a16 11 rfl) ?_
        refine x_iinc C (v := nI (k + 1)) (lv' := [(3, .int (nI (k + 1))), (4, .int (nI n)), (0, .ref a), (1, .long v)]) (dk ddJ7_fill_d0a16 12 rfl) rfl (nI_add k 1) (by decide) rfl ?_
        refine x_goto C (tgt := 6) (dk ddJ7_fill_d0a16 13 rfl) (by decide) ?_
        refine x_sub [0, 1, 2, 3] (lv' := [(3, .int (nI (k + 1))), (4, .int (nI n)), (0, .ref a), (1, .long v)]) rfl ?_
        exact ih_ (k + 1) (by omega)
  refine x_iconst C (v := nI 0) (dk ddJ7_fill_d0a16 0 rfl) (by decide) ?_
  refine x_istore_n C (lv' := [(3, .int (nI 0)), (0, .ref a), (1, .long v)]) (dk ddJ7_fill_d0a16 1 rfl) (by decide) rfl ?_
  refine x_aload_n C (dk ddJ7_fill_d0a16 2 rfl) rfl ?_
  refine x_alen C (v := nI n) ha hK (by decide) (by rw [hN]) (dk ddJ7_fill_d0a16 3 rfl) ?_
  refine x_istore C (lv' := [(4, .int (nI n)), (3, .int (nI 0)), (0, .ref a), (1, .long v)]) (dk ddJ7_fill_d0a16 4 rfl) (by decide) rfl ?_
  refine x_sub [1, 0, 2, 3] (lv' := [(3, .int (nI 0)), (4, .int (nI n)), (0, .ref a), (1, .long v)]) rfl ?_
  exact hloop n 0 (by omega)

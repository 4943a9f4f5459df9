/-! ===== rows of rows of longs are made ===== -/
theorem ax_arrV_congr {cA : ClassId} {N : Nat} {f g : Nat → Value} (h : ∀ j, j < N → f j = g j) : arrV cA N f = arrV cA N g := by
  have e : (fun j : Fin N => f j.val) = fun j => g j.val := funext fun j => h j.1 j.2
  unfold arrV
  rw [e]
theorem ax_outer (cA : ClassId) (N h0 : Nat) (i : Nat) : Jvm.Free.Multi.outerC cA N h0 i = arrV cA N (fun j => if j < i then .ref (h0 + 1 + j) else .null) := by
  induction i with
  | zero =>
    refine (arrV_new cA N .null).trans (ax_arrV_congr fun j _ => ?_)
    rw [if_neg (Nat.not_lt_zero j)]
  | succ i ih =>
    show (Jvm.Free.Multi.outerC cA N h0 i).setSlot i (.ref (h0 + 1 + i)) = _
    rw [ih, arrV_store]
    refine ax_arrV_congr fun j _ => ?_
    unfold updV
    by_cases hj : j = i
    · subst hj; rw [if_pos rfl, if_pos (Nat.lt_succ_self _)]
    · rw [if_neg hj]
      show (if j < i then Value.ref (h0 + 1 + j) else Value.null) = _
      by_cases hl : j < i
      · rw [if_pos hl, if_pos (by omega)]
      · rw [if_neg hl, if_neg (by omega)]
section AXMN
variable {p : Program} {l : Launch} {e : Env} {R : Room} {s : State} {m : MethodId} {args : Array Value} {below : List Frame} {meth : Method} {c : Code}
variable {cc : ByteArray} {nL : Nat} {own nm : String} {ret : Option FieldType} {D : va_G} {T : Nat → ClassId} {o c0 u0 : Nat} {Q : State → Prop}
variable {G G' : ax_G} {I I' : ax_I} {L L' : ax_L} {pc : Nat} {lv : List (Nat × Value)} {st : List Value}
theorem x_mna (C : ax_C p s m args meth c cc nL own nm ret D T o c0) {index N M : Nat} {n k : Int32} (hcl : Cond.classLink own index "[[J" ∈ lw_use) (hov : Cond.arrayOver (.array .long) ∈ lw_use) (har : Cond.arrayClass .long ∈ lw_use)
    (hn : ¬ n < 0) (hk : ¬ k < 0) (hN : n.toNatClampNeg = N) (hM : k.toNatClampNeg = M) (hNb : N < 2 ^ 20) (hMb : M < 2 ^ 20)
    (ht : ax_top G' = ax_top G + 1 + N) (hu : ax_used G' = ax_used G + N + N * M)
    (hold : ∀ b, b < ax_top G → ax_K G' b = ax_K G b ∧ ax_N G' b = ax_N G b ∧ ax_R G' b = ax_R G b ∧ I' b = I b ∧ L' b = L b)
    (hout : ax_K G' (ax_top G) = 7 ∧ ax_N G' (ax_top G) = N ∧ ∀ j, j < N → ax_R G' (ax_top G) j = some (ax_top G + 1 + j))
    (hin : ∀ j, j < N → ax_K G' (ax_top G + 1 + j) = 2 ∧ ax_N G' (ax_top G + 1 + j) = M ∧ L' (ax_top G + 1 + j) = fun _ => 0)
    (hcells : ax_top G + (1 + N) ≤ c0 + R.cells) (hslots : ax_used G + (N + N * M) ≤ u0 + R.slots) (hdg : decode cc pc = .ok (.multianewarray index 2, 4))
    (kk : ax_X p l e R s m args below meth c nL D T o c0 u0 Q G' I' L' (pc + 4) lv (.ref (ax_top G) :: st)) : ax_X p l e R s m args below meth c nL D T o c0 u0 Q G I L pc lv (.int k :: .int n :: st) := by
  intro H locs ls a1 a2 a3 a4 a5 S hS X
  have hsz := ax_size C a1 rfl a4 a5 hS X
  have hts := C.2.2.2.2.1
  have hKK := C.2.2.2.2.2.1
  subst hN hM hS
  obtain ⟨vm₁, cA, comp, hW, hfA, hfC, hO, hI, X1, step⟩ := X.multianewarray2F C.1 (own := own) (index := index) (ty := .long) C.2.2.2.1 (hts _ hcl) (hts _ hov) (hts _ har) (g := F0 m pc ls ((Value.int k :: Value.int n :: st).map (ax_tr o))) rfl (by rw [C.2.1]; exact hdg) rfl hn hk (by omega) (by show _ * 8 ≤ _; omega) (by omega) rfl rfl (by omega) (by omega)
  have e7 : cA = T 7 := Option.some.inj (hfA.symm.trans (hKK.2 7 _ rfl).2)
  have e2 : comp = T 2 := Option.some.inj (hfC.symm.trans (hKK.2 2 _ rfl).2)
  subst e7 e2
  obtain ⟨f1, f2, f3, f4⟩ := Jvm.Free.Multi.fill_facts (S.setVm vm₁) (T 7) (T 2) n.toNatClampNeg k.toNatClampNeg (defaultValue .long) n.toNatClampNeg
  have fo := fun (a : Addr) (ha : a < S.heap.size) => Jvm.Free.Multi.fill_old (S.setVm vm₁) (T 7) (T 2) n.toNatClampNeg k.toNatClampNeg (defaultValue .long) (a := a) ha n.toNatClampNeg
  have fi := fun (j : Nat) (hj : j < n.toNatClampNeg) => Jvm.Free.Multi.fill_inner (S.setVm vm₁) (T 7) (T 2) n.toNatClampNeg k.toNatClampNeg (defaultValue .long) n.toNatClampNeg j hj
  generalize hF : Jvm.Free.Multi.fill (S.setVm vm₁) (T 7) (T 2) n.toNatClampNeg k.toNatClampNeg (defaultValue .long) n.toNatClampNeg = F at *
  have f1' : F.heap.size = o + ax_top G + 1 + n.toNatClampNeg := by rw [← hsz]; exact f1
  have f2' : F.heap[o + ax_top G]? = some (Jvm.Free.Multi.outerC (T 7) n.toNatClampNeg (o + ax_top G) n.toNatClampNeg) := by rw [← hsz]; exact f2
  have fi' : ∀ j, j < n.toNatClampNeg → F.heap[o + ax_top G + 1 + j]? = some (Jvm.Free.Multi.innerC (T 2) k.toNatClampNeg (defaultValue .long)) := fun j hj => by rw [← hsz]; exact fi j hj
  have hP : ax_P D T o G' I' L' F.heap := by
    intro a q hq
    obtain ⟨ha, rfl⟩ := ax_ws_of hq
    rcases Nat.lt_trichotomy a (ax_top G) with h | h | h
    · obtain ⟨g1, g2, g3, g4, g5⟩ := hold a h
      rw [ax_ent_eq g1 g2 g3 g4 g5]
      exact (a4 a _ (ax_ws_at h)).kept (fo (o + a) (by rw [hsz]; exact Nat.add_lt_add_left h o))
    · subst h
      obtain ⟨g1, g2, g3⟩ := hout
      rw [ax_ent_r (by rw [g1]; decide) (by rw [g1]; decide), g1, g2]
      show F.heap[o + ax_top G]? = some (vp_cell _ _)
      rw [f2', vp_cell_q, ax_outer]
      refine congrArg some (ax_arrV_congr fun j hj => ?_)
      rw [if_pos hj, g3 j hj]
      show Value.ref (o + ax_top G + 1 + j) = Value.ref (o + (ax_top G + 1 + j))
      rw [Nat.add_assoc, Nat.add_assoc, Nat.add_assoc]
    · obtain ⟨j, rfl⟩ : ∃ j, a = ax_top G + 1 + j := ⟨a - (ax_top G + 1), by omega⟩
      have hj : j < n.toNatClampNeg := by omega
      obtain ⟨g1, g2, g3⟩ := hin j hj
      rw [ax_ent_l g1, g2, g3]
      show F.heap[o + (ax_top G + 1 + j)]? = some (vp_cell _ _)
      rw [show o + (ax_top G + 1 + j) = o + ax_top G + 1 + j by omega, fi' j hj, vp_cell_l]
      exact congrArg some (arrV_new (T 2) k.toNatClampNeg (.long 0))
  have hS' : va_S (fun q => o ≤ q) s.heap F.heap locs := ⟨Nat.le_trans a5.1 (by rw [f1', hsz]; omega), fun q h1 h2 => (fo q (Nat.lt_of_lt_of_le h1 a5.1)).trans (a5.2.1 q h1 h2), a5.2.2⟩
  obtain ⟨t, b1, b2⟩ := kk F.heap locs ls (by omega) (by omega) a3 hP hS' F rfl (by
    have z : ax_top G' - c0 = ax_top G - c0 + 1 + n.toNatClampNeg := by omega
    have z2 : ax_used G' - u0 = ax_used G - u0 + n.toNatClampNeg + n.toNatClampNeg * k.toNatClampNeg := by omega
    rw [z, z2]
    exact X1)
  refine ⟨t, step t ?_, b2⟩
  rw [hsz]
  exact b1
end AXMN
/-- the memory behind a multianewarray of longs, row by row -/
def ax_mG (G : ax_G) (n k : Nat) : Nat → ax_G
  | 0 => ax_new G 7 n n
  | i + 1 => ax_gR (ax_new (ax_mG G n k i) 2 k k) (ax_top G) i (some (ax_top (ax_mG G n k i)))
def ax_mZ {α : Type} (f : Nat → Nat → α) (G : ax_G) (n k : Nat) (z : α) : Nat → Nat → Nat → α
  | 0 => ax_z f (ax_top G) z
  | i + 1 => ax_z (ax_mZ f G n k z i) (ax_top (ax_mG G n k i)) z
def ax_mT (T : ax_Tb) (n k : Nat) : Nat → ax_Tb
  | 0 => T ++ [(7, n, [])]
  | i + 1 => ax_addr (ax_mT T n k i ++ [(2, k, [])]) T.length i (ax_mT T n k i).length
def ax_mC (C : List (Nat → Int32)) : Nat → List (Nat → Int32)
  | 0 => C ++ [fun _ : Nat => (0 : Int32)]
  | i + 1 => ax_mC C i ++ [fun _ : Nat => (0 : Int32)]
theorem ax_mG_top (G : ax_G) (n k i : Nat) : ax_top (ax_mG G n k i) = ax_top G + 1 + i := by
  induction i with
  | zero => rfl
  | succ i ih => show ax_top (ax_mG G n k i) + 1 = _; rw [ih]; rfl
theorem ax_mG_used (G : ax_G) (n k i : Nat) : ax_used (ax_mG G n k i) = ax_used G + n + i * k := by
  induction i with
  | zero => rw [Nat.zero_mul]; rfl
  | succ i ih => show ax_used (ax_mG G n k i) + k = _; rw [ih, Nat.succ_mul, Nat.add_assoc]
theorem ax_mG_old (G : ax_G) (n k i : Nat) {b : Nat} (hb : b < ax_top G) : ax_K (ax_mG G n k i) b = ax_K G b ∧ ax_N (ax_mG G n k i) b = ax_N G b ∧ ax_R (ax_mG G n k i) b = ax_R G b := by
  induction i with
  | zero => exact ⟨ax_new_Kne (by omega), ax_new_Nne (by omega), ax_new_Rne (by omega)⟩
  | succ i ih =>
    have hne : b ≠ ax_top (ax_mG G n k i) := by rw [ax_mG_top]; omega
    obtain ⟨h1, h2, h3⟩ := ih
    refine ⟨(ax_new_Kne (k := 2) (n := k) (sl := k) hne).trans h1, (ax_new_Nne (k := 2) (n := k) (sl := k) hne).trans h2, ?_⟩
    show ax_u (ax_R (ax_new (ax_mG G n k i) 2 k k)) (ax_top G) i _ b = _
    rw [ax_u_ne (by omega), ax_new_Rne hne]
    exact h3
theorem ax_mZ_old {α : Type} (f : Nat → Nat → α) (G : ax_G) (n k : Nat) (z : α) (i : Nat) {b : Nat} (hb : b < ax_top G) : ax_mZ f G n k z i b = f b := by
  induction i with
  | zero => exact ax_z_ne (by omega)
  | succ i ih => exact (ax_z_ne (by rw [ax_mG_top]; omega)).trans ih
theorem ax_mZ_new {α : Type} (f : Nat → Nat → α) (G : ax_G) (n k : Nat) (z : α) (i : Nat) {j : Nat} (hj : j < i) : ax_mZ f G n k z i (ax_top G + 1 + j) = fun _ => z := by
  induction i with
  | zero => exact absurd hj (Nat.not_lt_zero j)
  | succ i ih =>
    show ax_z (ax_mZ f G n k z i) (ax_top (ax_mG G n k i)) z _ = _
    rw [ax_mG_top]
    by_cases h : j = i
    · subst h; exact ax_z_eq _ _ _
    · rw [ax_z_ne (by omega)]; exact ih (by omega)
theorem ax_mG_out (G : ax_G) (n k i : Nat) : ax_K (ax_mG G n k i) (ax_top G) = 7 ∧ ax_N (ax_mG G n k i) (ax_top G) = n ∧ ∀ j, j < i → ax_R (ax_mG G n k i) (ax_top G) j = some (ax_top G + 1 + j) := by
  induction i with
  | zero => exact ⟨ax_new_K _ _ _ _, ax_new_N _ _ _ _, fun j hj => absurd hj (Nat.not_lt_zero j)⟩
  | succ i ih =>
    have hne : ax_top G ≠ ax_top (ax_mG G n k i) := by rw [ax_mG_top]; omega
    obtain ⟨h1, h2, h3⟩ := ih
    refine ⟨(ax_new_Kne (k := 2) (n := k) (sl := k) hne).trans h1, (ax_new_Nne (k := 2) (n := k) (sl := k) hne).trans h2, fun j hj => ?_⟩
    show ax_u (ax_R (ax_new (ax_mG G n k i) 2 k k)) (ax_top G) i _ (ax_top G) j = _
    by_cases h : j = i
    · subst h; rw [ax_u_at, ax_mG_top]
    · rw [ax_u_nj h, ax_new_Rne hne]
      exact h3 j (by omega)
theorem ax_mG_in (G : ax_G) (n k i : Nat) {j : Nat} (hj : j < i) : ax_K (ax_mG G n k i) (ax_top G + 1 + j) = 2 ∧ ax_N (ax_mG G n k i) (ax_top G + 1 + j) = k := by
  induction i with
  | zero => exact absurd hj (Nat.not_lt_zero j)
  | succ i ih =>
    by_cases h : j = i
    · subst h
      rw [← ax_mG_top G n k j]
      exact ⟨ax_new_K (ax_mG G n k j) 2 k k, ax_new_N (ax_mG G n k j) 2 k k⟩
    · have hne : ax_top G + 1 + j ≠ ax_top (ax_mG G n k i) := by rw [ax_mG_top]; omega
      obtain ⟨h1, h2⟩ := ih (by omega)
      exact ⟨(ax_new_Kne (k := 2) (n := k) (sl := k) hne).trans h1, (ax_new_Nne (k := 2) (n := k) (sl := k) hne).trans h2⟩
theorem ax_mT_len (T : ax_Tb) (n k i : Nat) : (ax_mT T n k i).length = T.length + 1 + i := by
  induction i with
  | zero => show (T ++ _).length = _; rw [List.length_append]; rfl
  | succ i ih =>
    show (ax_addr _ _ _ _).length = _
    unfold ax_addr
    rw [List.length_modify, List.length_append, ih]; rfl
theorem ax_mT_at (T : ax_Tb) (n k i : Nat) : ∃ r : List (Nat × Nat), (ax_mT T n k i)[T.length]? = some (7, n, r) ∧ ∀ q ∈ r, q.1 < i := by
  induction i with
  | zero =>
    refine ⟨[], ?_, fun q hq => by cases hq⟩
    show (T ++ _)[T.length]? = _
    rw [List.getElem?_append_right (Nat.le_refl _), Nat.sub_self]; rfl
  | succ i ih =>
    obtain ⟨r, h1, h2⟩ := ih
    refine ⟨(i, (ax_mT T n k i).length) :: r, ?_, fun q hq => ?_⟩
    · show (ax_addr _ _ _ _)[T.length]? = _
      unfold ax_addr
      rw [List.getElem?_modify, List.getElem?_append_left (by rw [ax_mT_len]; omega), h1]
      simp
    · rcases List.mem_cons.mp hq with rfl | h
      · exact Nat.lt_succ_self _
      · exact Nat.lt_succ_of_lt (h2 q h)
theorem ax_Bt.mna {G0 G : ax_G} {I0 I : ax_I} {L0 L : ax_L} {a us : Nat} {T : ax_Tb} {C : List (Nat → Int32)} (h : ax_Bt G0 I0 L0 a us T C G I L) (n k i : Nat) : ax_Bt G0 I0 L0 a (us + n + i * k) (ax_mT T n k i) (ax_mC C i) (ax_mG G n k i) (ax_mZ I G n k 0 i) (ax_mZ L G n k 0 i) := by
  induction i with
  | zero => rw [Nat.zero_mul]; exact h.new
  | succ i ih =>
    obtain ⟨r, h1, h2⟩ := ax_mT_at T n k i
    have h3 := (ih.new (k := 2) (n := k) (sl := k)).ref (j := T.length) (k := i) (b := (ax_mT T n k i).length) (x := (7, n, r)) (by rw [List.getElem?_append_left (by rw [ax_mT_len]; omega)]; exact h1) (List.all_eq_true.mpr fun q hq => by have := h2 q hq; show (!(q.1 == i)) = true; rw [beq_eq_false_iff_ne.mpr (by omega)]; rfl)
    rw [← ih.1, ← h.1] at h3
    rw [Nat.succ_mul, ← Nat.add_assoc]
    exact h3
section AXMN2
variable {p : Program} {l : Launch} {e : Env} {R : Room} {s : State} {m : MethodId} {args : Array Value} {below : List Frame} {meth : Method} {c : Code}
variable {cc : ByteArray} {nL : Nat} {own nm : String} {ret : Option FieldType} {D : va_G} {T : Nat → ClassId} {o c0 u0 : Nat} {Q : State → Prop}
variable {G : ax_G} {I : ax_I} {L : ax_L} {pc : Nat} {lv : List (Nat × Value)} {st : List Value}
theorem x_mnaM (C : ax_C p s m args meth c cc nL own nm ret D T o c0) {index N M : Nat} (hcl : Cond.classLink own index "[[J" ∈ lw_use) (hov : Cond.arrayOver (.array .long) ∈ lw_use) (har : Cond.arrayClass .long ∈ lw_use) (hNb : N < 2 ^ 20) (hMb : M < 2 ^ 20)
    (hcells : ax_top G + (1 + N) ≤ c0 + R.cells) (hslots : ax_used G + (N + N * M) ≤ u0 + R.slots) (hdg : decode cc pc = .ok (.multianewarray index 2, 4))
    (kk : ax_X p l e R s m args below meth c nL D T o c0 u0 Q (ax_mG G N M N) (ax_mZ I G N M 0 N) (ax_mZ L G N M 0 N) (pc + 4) lv (.ref (ax_top G) :: st)) : ax_X p l e R s m args below meth c nL D T o c0 u0 Q G I L pc lv (.int (nI M) :: .int (nI N) :: st) :=
  x_mna C hcl hov har (nI_pos (by omega)) (nI_pos (by omega)) (pk_cl (x := nI N) N rfl (by omega)) (pk_cl (x := nI M) M rfl (by omega)) hNb hMb (ax_mG_top G N M N) (ax_mG_used G N M N) (fun b hb => ⟨(ax_mG_old G N M N hb).1, (ax_mG_old G N M N hb).2.1, (ax_mG_old G N M N hb).2.2, ax_mZ_old I G N M 0 N hb, ax_mZ_old L G N M 0 N hb⟩) (ax_mG_out G N M N) (fun j hj => ⟨(ax_mG_in G N M N hj).1, (ax_mG_in G N M N hj).2, ax_mZ_new L G N M 0 N hj⟩) hcells hslots hdg kk
end AXMN2

/-! ===== cells read and written ===== -/
section AXE
variable {T : Nat → ClassId} {o : Nat} {G G' : ax_G} {I I' : ax_I} {L L' : ax_L} {a : Nat}
theorem ax_ent_i (h : ax_K G a < 2) : ax_ent T o G I L a = .inl (T (ax_K G a), ax_N G a, .inl (I a)) := by unfold ax_ent; rw [if_pos h]
theorem ax_ent_l (h : ax_K G a = 2) : ax_ent T o G I L a = .inl (T 2, ax_N G a, .inr (.inl (L a))) := by unfold ax_ent; rw [if_neg (by omega), if_pos h]
theorem ax_ent_r (h1 : 2 < ax_K G a) (h2 : ax_K G a < 8) : ax_ent T o G I L a = .inl (T (ax_K G a), ax_N G a, .inr (.inr (.inr (.inr (fun j => (ax_R G a j).map (fun b => o + b)))))) := by unfold ax_ent; rw [if_neg (by omega), if_neg (by omega), if_pos h2]
theorem ax_ent_o {ci : Nat} (h : ax_K G a = 8 + ci) : ax_ent T o G I L a = .inr (ci, ax_fs o G I ci a) := by unfold ax_ent; rw [if_neg (by omega), if_neg (by omega), if_neg (by omega), show ax_K G a - 8 = ci by omega]
theorem ax_ent_eq (h1 : ax_K G' a = ax_K G a) (h2 : ax_N G' a = ax_N G a) (h3 : ax_R G' a = ax_R G a) (h4 : I' a = I a) (h5 : L' a = L a) : ax_ent T o G' I' L' a = ax_ent T o G I L a := by
  unfold ax_ent ax_fs ax_fv
  rw [h1, h2, h3, h4, h5]
theorem ax_at_i (h : a < ax_top G) {t : Nat} (hK : ax_K G a = t) (ht : t < 2) : (ax_ws T o G I L)[a]? = some (o + a, .inl (T t, ax_N G a, .inl (I a))) := by
  subst hK; rw [ax_ws_at h, ax_ent_i ht]
theorem ax_at_l (h : a < ax_top G) (hK : ax_K G a = 2) : (ax_ws T o G I L)[a]? = some (o + a, .inl (T 2, ax_N G a, .inr (.inl (L a)))) := by rw [ax_ws_at h, ax_ent_l hK]
theorem ax_at_r (h : a < ax_top G) {t : Nat} (hK : ax_K G a = t) (h1 : 2 < t) (h2 : t < 8) : (ax_ws T o G I L)[a]? = some (o + a, .inl (T t, ax_N G a, .inr (.inr (.inr (.inr (fun j => (ax_R G a j).map (fun b => o + b))))))) := by
  subst hK; rw [ax_ws_at h, ax_ent_r h1 h2]
theorem ax_at_o (h : a < ax_top G) {ci : Nat} (hK : ax_K G a = 8 + ci) : (ax_ws T o G I L)[a]? = some (o + a, .inr (ci, ax_fs o G I ci a)) := by rw [ax_ws_at h, ax_ent_o hK]
theorem ax_put_i (h : a < ax_top G) {t : Nat} (hK : ax_K G a = t) (ht : t < 2) (f : Nat → Int32) (hf : I' a = f) (hI : ∀ k, k ≠ a → I' k = I k) : (ax_ws T o G I L).set a (o + a, .inl (T t, ax_N G a, .inl f)) = ax_ws T o G I' L := by
  subst hK; subst hf
  exact ax_ws_set h rfl (ax_ent_i ht) fun k hk => ax_ent_eq rfl rfl rfl (hI k hk) rfl
theorem ax_put_l (h : a < ax_top G) (hK : ax_K G a = 2) (f : Nat → Int64) (hf : L' a = f) (hL : ∀ k, k ≠ a → L' k = L k) : (ax_ws T o G I L).set a (o + a, .inl (T 2, ax_N G a, .inr (.inl f))) = ax_ws T o G I L' := by
  subst hf
  exact ax_ws_set h rfl (ax_ent_l hK) fun k hk => ax_ent_eq rfl rfl rfl rfl (hL k hk)
/-- the references, but r at place j of cell a -/
def ax_gR (G : ax_G) (a j : Nat) (r : Option Nat) : ax_G := (G.1, G.2.1, G.2.2.1, ax_u G.2.2.2 a j r)
theorem ax_put_r (h : a < ax_top G) {t : Nat} (hK : ax_K G a = t) (h1 : 2 < t) (h2 : t < 8) (j b : Nat) : (ax_ws T o G I L).set a (o + a, .inl (T t, ax_N G a, .inr (.inr (.inr (.inr (va_up (fun j => (ax_R G a j).map (fun b => o + b)) j (some (o + b)))))))) = ax_ws T o (ax_gR G a j (some b)) I L := by
  subst hK
  refine ax_ws_set h rfl ?_ fun k hk => ax_ent_eq rfl rfl (ax_u_ne hk) rfl rfl
  have hf : (fun q => (ax_R (ax_gR G a j (some b)) a q).map (fun b => o + b)) = va_up (fun j => (ax_R G a j).map (fun b => o + b)) j (some (o + b)) := by
    funext q
    show (ax_u G.2.2.2 a j (some b) a q).map _ = _
    rw [ax_u_eq]
    unfold va_up
    by_cases hq : q = j
    · simp only [if_pos hq]; rfl
    · simp only [if_neg hq]
  rw [ax_ent_r (G := ax_gR G a j (some b)) h1 h2, hf]
  rfl
theorem ax_fs_at {o : Nat} {G : ax_G} {I : ax_I} {ci a k : Nat} (hk : k < ax_nf ci) : (ax_fs o G I ci a)[k]? = some (ax_tr o (ax_fv G I ci a k)) := by
  unfold ax_fs
  rw [List.getElem?_map, List.getElem?_range hk]
  rfl
theorem ax_fs_set {o : Nat} {G G' : ax_G} {I I' : ax_I} {ci a k : Nat} {v : Value} (hk : k < ax_nf ci) (hv : ax_tr o (ax_fv G' I' ci a k) = v) (hn : ∀ q, q ≠ k → ax_fv G' I' ci a q = ax_fv G I ci a q) : (ax_fs o G I ci a).set k v = ax_fs o G' I' ci a := by
  apply List.ext_getElem?
  intro q
  rw [List.getElem?_set]
  by_cases h : k = q
  · subst h
    rw [if_pos rfl, if_pos (by simp [ax_fs]; exact hk), ax_fs_at hk, hv]
  · rw [if_neg h]
    by_cases hl : q < ax_nf ci
    · rw [ax_fs_at hl, ax_fs_at hl, hn q (fun z => h z.symm)]
    · rw [List.getElem?_eq_none (by simp [ax_fs]; omega), List.getElem?_eq_none (by simp [ax_fs]; omega)]
theorem ax_put_fi (h : a < ax_top G) {ci k : Nat} (hK : ax_K G a = 8 + ci) (hk : k < ax_nf ci) (ht : ax_ty ci k = false) (v : Int32) : (ax_ws T o G I L).set a (o + a, .inr (ci, (ax_fs o G I ci a).set k (.int v))) = ax_ws T o G (ax_u I a k v) L := by
  refine ax_ws_set h rfl ?_ fun q hq => ax_ent_eq rfl rfl rfl (ax_u_ne hq) rfl
  rw [ax_ent_o hK, ax_fs_set (G' := G) (I' := ax_u I a k v) hk]
  · unfold ax_fv; rw [ht]; simp only [cond_false, ax_u_at]; rfl
  · intro q hq; unfold ax_fv; rw [ax_u_nj hq]
theorem ax_put_fr (h : a < ax_top G) {ci k : Nat} (hK : ax_K G a = 8 + ci) (hk : k < ax_nf ci) (ht : ax_ty ci k = true) (b : Nat) : (ax_ws T o G I L).set a (o + a, .inr (ci, (ax_fs o G I ci a).set k (.ref (o + b)))) = ax_ws T o (ax_gR G a k (some b)) I L := by
  refine ax_ws_set h rfl ?_ fun q hq => ax_ent_eq rfl rfl (ax_u_ne hq) rfl rfl
  rw [ax_ent_o (G := ax_gR G a k (some b)) hK, ax_fs_set (G' := ax_gR G a k (some b)) (I' := I) hk]
  · unfold ax_fv; rw [ht]
    show ax_tr o (ax_rv (ax_u G.2.2.2 a k (some b) a k)) = _
    rw [ax_u_at]; rfl
  · intro q hq
    unfold ax_fv
    show (bif ax_ty ci q then ax_rv (ax_u G.2.2.2 a k (some b) a q) else _) = _
    rw [ax_u_nj hq]
end AXE
/-- what the tables say of a field: class own's pool entry index is field k of class ci -/
def ax_fl (own : String) (index ci k : Nat) : Prop := ∃ q : vw_C, vwCl[ci]? = some q ∧ k < q.2.2 ∧ Cond.fieldLink own index (q.2.1 k).1 (q.2.1 k).2.1 (q.2.1 k).2.2.1 ∈ lw_use ∧ ∀ w ∈ u_ws q.1 q.2.1 q.2.2, w ∈ lw_use
/-- what a class says of its fields, for writing -/
def ax_fw (ci : Nat) (ty : Nat → FieldType) : Prop := ∃ q : vw_C, vwCl[ci]? = some q ∧ (∀ k, k < q.2.2 → parseFieldDescriptor (q.2.1 k).2.2.1 = some (ty k)) ∧ ∀ a, a < q.2.2 → ∀ b, b < q.2.2 → a ≠ b → (q.2.1 a).2.1 ≠ (q.2.1 b).2.1
def ax_fin (ci k : Nat) : Bool := ((vwCl[ci]?).map (fun q => (q.2.1 k).2.2.2)).getD false
def ax_decl (ci k : Nat) : String := ((vwCl[ci]?).map (fun q => (q.2.1 k).1)).getD ""
theorem ax_P_of {D : va_G} {T : Nat → ClassId} {o : Nat} {G : ax_G} {I : ax_I} {L : ax_L} {H : Heap} {ws : va_W} (hP : va_P D vwCl ws H) (e : ws = ax_ws T o G I L) : ax_P D T o G I L H := by
  subst e
  exact hP
section AXH
variable {p : Program} {l : Launch} {e : Env} {R : Room} {s : State} {m : MethodId} {args : Array Value} {below : List Frame} {meth : Method} {c : Code}
variable {cc : ByteArray} {nL : Nat} {own nm : String} {ret : Option FieldType} {D : va_G} {T : Nat → ClassId} {o c0 u0 : Nat} {Q : State → Prop}
variable {G : ax_G} {I : ax_I} {L : ax_L} {pc : Nat} {lv : List (Nat × Value)} {st : List Value} {a : Nat}
theorem ax_nf_of {ci : Nat} {q : vw_C} (h : vwCl[ci]? = some q) : ax_nf ci = q.2.2 := by unfold ax_nf; rw [h]; rfl
theorem x_get (C : ax_C p s m args meth c cc nL own nm ret D T o c0) {index ci k : Nat} (hf : ax_fl own index ci k) (ha : a < ax_top G) (hK : ax_K G a = 8 + ci) (hdg : decode cc pc = .ok (.getfield index, 3)) (kk : ax_X p l e R s m args below meth c nL D T o c0 u0 Q G I L (pc + 3) lv (ax_fv G I ci a k :: st)) : ax_X p l e R s m args below meth c nL D T o c0 u0 Q G I L pc lv (.ref a :: st) := by
  obtain ⟨q, h1, h2, h3, h4⟩ := hf
  intro H locs ls a1 a2 a3 a4 a5
  exact va_get C.1 C.2.1 C.2.2.2.2.1 h4 C.2.2.2.1 C.2.2.2.2.2.1 a4 a (ax_at_o ha hK) h1 k h2 (C.2.2.2.2.1 _ h3) (fun _ h => h) (ax_fs_at (by rw [ax_nf_of h1]; exact h2)) hdg (kk H locs ls a1 a2 a3 a4 a5)
theorem x_geti (C : ax_C p s m args meth c cc nL own nm ret D T o c0) {index ci k : Nat} (hf : ax_fl own index ci k) (ht : ax_ty ci k = false) (ha : a < ax_top G) (hK : ax_K G a = 8 + ci) (hdg : decode cc pc = .ok (.getfield index, 3)) (kk : ax_X p l e R s m args below meth c nL D T o c0 u0 Q G I L (pc + 3) lv (.int (I a k) :: st)) : ax_X p l e R s m args below meth c nL D T o c0 u0 Q G I L pc lv (.ref a :: st) := by
  refine x_get C hf ha hK hdg ?_
  unfold ax_fv; rw [ht]; exact kk
theorem x_getr (C : ax_C p s m args meth c cc nL own nm ret D T o c0) {index ci k b : Nat} (hf : ax_fl own index ci k) (ht : ax_ty ci k = true) (ha : a < ax_top G) (hK : ax_K G a = 8 + ci) (hR : ax_R G a k = some b) (hdg : decode cc pc = .ok (.getfield index, 3)) (kk : ax_X p l e R s m args below meth c nL D T o c0 u0 Q G I L (pc + 3) lv (.ref b :: st)) : ax_X p l e R s m args below meth c nL D T o c0 u0 Q G I L pc lv (.ref a :: st) := by
  refine x_get C hf ha hK hdg ?_
  unfold ax_fv; rw [ht, hR]; exact kk
theorem x_puti (C : ax_C p s m args meth c cc nL own nm ret D T o c0) {index ci k : Nat} {tyf : Nat → FieldType} {v : Int32} (hf : ax_fl own index ci k) (hw : ax_fw ci tyf) (ht : ax_ty ci k = false) (hfin : ax_fin ci k = false) (ha : a < ax_top G) (hK : ax_K G a = 8 + ci) (hn : narrow (tyf k) (.int v) = .int v) (hfit : fits (tyf k) (.int v) = true) (hdg : decode cc pc = .ok (.putfield index, 3)) (kk : ax_X p l e R s m args below meth c nL D T o c0 u0 Q G (ax_u I a k v) L (pc + 3) lv st) : ax_X p l e R s m args below meth c nL D T o c0 u0 Q G I L pc lv (.int v :: .ref a :: st) := by
  obtain ⟨q, h1, h2, h3, h4⟩ := hf
  obtain ⟨q', g1, g2, g3⟩ := hw
  cases h1.symm.trans g1
  have hnf := ax_nf_of h1
  intro H locs ls a1 a2 a3 a4 a5
  refine va_put C.1 C.2.1 C.2.2.2.2.1 h4 tyf g2 g3 C.2.2.2.1 C.2.2.2.2.2.1 a4 (ax_wsD T o G I L) a5 a (ax_at_o ha hK) h1 k h2 (C.2.2.2.2.1 _ h3) (fun _ h => h) (by unfold ax_fin at hfin; rw [h1] at hfin; exact hfin) (g2 k h2) hn hfit (by simp [ax_fs]; omega) hdg (fun H1 locs1 hP hD hS => ?_)
  refine kk H1 locs1 ls a1 a2 a3 ?_ hS
  exact ax_P_of hP (ax_put_fi ha hK (by omega) ht v)
theorem x_putrF (C : ax_C p s m args meth c cc nL own nm ret D T o c0) {index ci k b : Nat} {tyf : Nat → FieldType} (hf : ax_fl own index ci k) (hw : ax_fw ci tyf) (ht : ax_ty ci k = true) (hfin : ax_fin ci k = true) (hnm : nm = "<init>") (hdecl : ax_decl ci k = own) (ha : a < ax_top G) (hK : ax_K G a = 8 + ci) (hn : ∀ x, narrow (tyf k) (.ref x) = .ref x) (hfit : ∀ x, fits (tyf k) (.ref x) = true) (hdg : decode cc pc = .ok (.putfield index, 3)) (kk : ax_X p l e R s m args below meth c nL D T o c0 u0 Q (ax_gR G a k (some b)) I L (pc + 3) lv st) : ax_X p l e R s m args below meth c nL D T o c0 u0 Q G I L pc lv (.ref b :: .ref a :: st) := by
  obtain ⟨q, h1, h2, h3, h4⟩ := hf
  obtain ⟨q', g1, g2, g3⟩ := hw
  cases h1.symm.trans g1
  have hnf := ax_nf_of h1
  intro H locs ls a1 a2 a3 a4 a5
  refine va_putF (v := .ref (o + b)) C.1 C.2.1 C.2.2.2.2.1 h4 tyf g2 g3 C.2.2.2.1 C.2.2.2.2.2.1 a4 (ax_wsD T o G I L) a5 a (ax_at_o ha hK) h1 k h2 (C.2.2.2.2.1 _ h3) (fun _ h => h) (by unfold ax_fin at hfin; rw [h1] at hfin; exact hfin) (by rw [C.2.2.2.2.2.2.2.2.1]; exact hnm) (by unfold ax_decl at hdecl; rw [h1] at hdecl; exact hdecl) (g2 k h2) (hn _) (hfit _) (by simp [ax_fs]; omega) hdg (fun H1 locs1 hP hD hS => ?_)
  refine kk H1 locs1 ls a1 a2 a3 ?_ hS
  exact ax_P_of hP (ax_put_fr ha hK (by omega) ht b)
theorem x_iald (C : ax_C p s m args meth c cc nL own nm ret D T o c0) {i : Int32} (ha : a < ax_top G) (hK : ax_K G a = 0) (hi : vp_in i (ax_N G a)) (hdg : decode cc pc = .ok (.iaload, 1)) (kk : ax_X p l e R s m args below meth c nL D T o c0 u0 Q G I L (pc + 1) lv (.int (I a i.toNatClampNeg) :: st)) : ax_X p l e R s m args below meth c nL D T o c0 u0 Q G I L pc lv (.int i :: .ref a :: st) :=
  fun H locs ls a1 a2 a3 a4 a5 => va_iald C.1 C.2.1 C.2.2.2.2.2.1 a4 a 0 (ax_at_i ha hK (by decide)) rfl hi hdg (kk H locs ls a1 a2 a3 a4 a5)
theorem x_bald (C : ax_C p s m args meth c cc nL own nm ret D T o c0) {i : Int32} (ha : a < ax_top G) (hK : ax_K G a = 1) (hi : vp_in i (ax_N G a)) (hdg : decode cc pc = .ok (.baload, 1)) (kk : ax_X p l e R s m args below meth c nL D T o c0 u0 Q G I L (pc + 1) lv (.int (I a i.toNatClampNeg) :: st)) : ax_X p l e R s m args below meth c nL D T o c0 u0 Q G I L pc lv (.int i :: .ref a :: st) :=
  fun H locs ls a1 a2 a3 a4 a5 => va_bald C.1 C.2.1 C.2.2.2.2.2.1 a4 a 1 (ax_at_i ha hK (by decide)) rfl hi hdg (kk H locs ls a1 a2 a3 a4 a5)
theorem x_lald (C : ax_C p s m args meth c cc nL own nm ret D T o c0) {i : Int32} (ha : a < ax_top G) (hK : ax_K G a = 2) (hi : vp_in i (ax_N G a)) (hdg : decode cc pc = .ok (.laload, 1)) (kk : ax_X p l e R s m args below meth c nL D T o c0 u0 Q G I L (pc + 1) lv (.long (L a i.toNatClampNeg) :: st)) : ax_X p l e R s m args below meth c nL D T o c0 u0 Q G I L pc lv (.int i :: .ref a :: st) :=
  fun H locs ls a1 a2 a3 a4 a5 => va_lald C.1 C.2.1 C.2.2.2.2.2.1 a4 a 2 (ax_at_l ha hK) rfl hi hdg (kk H locs ls a1 a2 a3 a4 a5)
theorem x_iast (C : ax_C p s m args meth c cc nL own nm ret D T o c0) {i x : Int32} (ha : a < ax_top G) (hK : ax_K G a = 0) (hi : vp_in i (ax_N G a)) (hdg : decode cc pc = .ok (.iastore, 1)) (kk : ax_X p l e R s m args below meth c nL D T o c0 u0 Q G (ax_u I a i.toNatClampNeg x) L (pc + 1) lv st) : ax_X p l e R s m args below meth c nL D T o c0 u0 Q G I L pc lv (.int x :: .int i :: .ref a :: st) := by
  intro H locs ls a1 a2 a3 a4 a5
  refine va_iast C.1 C.2.1 C.2.2.2.2.2.1 a4 (ax_wsD T o G I L) a5 a 0 (ax_at_i ha hK (by decide)) rfl hi hdg (fun H1 locs1 hP hD hS => ?_)
  exact kk H1 locs1 ls a1 a2 a3 (ax_P_of hP (ax_put_i ha hK (by decide) (upd (I a) i.toNatClampNeg x) (ax_u_eq I a i.toNatClampNeg x) (fun k hk => ax_u_ne hk))) hS
theorem x_bast (C : ax_C p s m args meth c cc nL own nm ret D T o c0) {i x : Int32} (ha : a < ax_top G) (hK : ax_K G a = 1) (hi : vp_in i (ax_N G a)) (hdg : decode cc pc = .ok (.bastore, 1)) (kk : ax_X p l e R s m args below meth c nL D T o c0 u0 Q G (ax_u I a i.toNatClampNeg (vp_nar .byte x)) L (pc + 1) lv st) : ax_X p l e R s m args below meth c nL D T o c0 u0 Q G I L pc lv (.int x :: .int i :: .ref a :: st) := by
  intro H locs ls a1 a2 a3 a4 a5
  refine va_bast C.1 C.2.1 C.2.2.2.2.2.1 a4 (ax_wsD T o G I L) a5 a 1 (ax_at_i ha hK (by decide)) rfl hi hdg (fun H1 locs1 hP hD hS => ?_)
  exact kk H1 locs1 ls a1 a2 a3 (ax_P_of hP (ax_put_i ha hK (by decide) (upd (I a) i.toNatClampNeg (vp_nar .byte x)) (ax_u_eq I a i.toNatClampNeg (vp_nar .byte x)) (fun k hk => ax_u_ne hk))) hS
theorem x_last (C : ax_C p s m args meth c cc nL own nm ret D T o c0) {i : Int32} {x : Int64} (ha : a < ax_top G) (hK : ax_K G a = 2) (hi : vp_in i (ax_N G a)) (hdg : decode cc pc = .ok (.lastore, 1)) (kk : ax_X p l e R s m args below meth c nL D T o c0 u0 Q G I (ax_u L a i.toNatClampNeg x) (pc + 1) lv st) : ax_X p l e R s m args below meth c nL D T o c0 u0 Q G I L pc lv (.long x :: .int i :: .ref a :: st) := by
  intro H locs ls a1 a2 a3 a4 a5
  refine va_last C.1 C.2.1 C.2.2.2.2.2.1 a4 (ax_wsD T o G I L) a5 a 2 (ax_at_l ha hK) rfl hi hdg (fun H1 locs1 hP hD hS => ?_)
  exact kk H1 locs1 ls a1 a2 a3 (ax_P_of hP (ax_put_l ha hK (vp_updL (L a) i.toNatClampNeg x) (ax_u_eq L a i.toNatClampNeg x) (fun k hk => ax_u_ne hk))) hS
theorem x_aald3 (C : ax_C p s m args meth c cc nL own nm ret D T o c0) {i : Int32} {b : Nat} (ha : a < ax_top G) (hK : ax_K G a = 3) (hi : vp_in i (ax_N G a)) (hR : ax_R G a i.toNatClampNeg = some b) (hdg : decode cc pc = .ok (.aaload, 1)) (kk : ax_X p l e R s m args below meth c nL D T o c0 u0 Q G I L (pc + 1) lv (.ref b :: st)) : ax_X p l e R s m args below meth c nL D T o c0 u0 Q G I L pc lv (.int i :: .ref a :: st) := by
  intro H locs ls a1 a2 a3 a4 a5
  refine va_aldq C.1 C.2.1 C.2.2.2.2.2.1 a4 a 3 (ax_at_r ha hK (by decide) (by decide)) (C := RX7) rfl hi hdg ?_
  simp only [hR]
  exact kk H locs ls a1 a2 a3 a4 a5
theorem x_aald4 (C : ax_C p s m args meth c cc nL own nm ret D T o c0) {i : Int32} {b : Nat} (ha : a < ax_top G) (hK : ax_K G a = 4) (hi : vp_in i (ax_N G a)) (hR : ax_R G a i.toNatClampNeg = some b) (hdg : decode cc pc = .ok (.aaload, 1)) (kk : ax_X p l e R s m args below meth c nL D T o c0 u0 Q G I L (pc + 1) lv (.ref b :: st)) : ax_X p l e R s m args below meth c nL D T o c0 u0 Q G I L pc lv (.int i :: .ref a :: st) := by
  intro H locs ls a1 a2 a3 a4 a5
  refine va_aldq C.1 C.2.1 C.2.2.2.2.2.1 a4 a 4 (ax_at_r ha hK (by decide) (by decide)) (C := RX8) rfl hi hdg ?_
  simp only [hR]
  exact kk H locs ls a1 a2 a3 a4 a5
theorem x_aald5 (C : ax_C p s m args meth c cc nL own nm ret D T o c0) {i : Int32} {b : Nat} (ha : a < ax_top G) (hK : ax_K G a = 5) (hi : vp_in i (ax_N G a)) (hR : ax_R G a i.toNatClampNeg = some b) (hdg : decode cc pc = .ok (.aaload, 1)) (kk : ax_X p l e R s m args below meth c nL D T o c0 u0 Q G I L (pc + 1) lv (.ref b :: st)) : ax_X p l e R s m args below meth c nL D T o c0 u0 Q G I L pc lv (.int i :: .ref a :: st) := by
  intro H locs ls a1 a2 a3 a4 a5
  refine va_aldq C.1 C.2.1 C.2.2.2.2.2.1 a4 a 5 (ax_at_r ha hK (by decide) (by decide)) (C := RX5) rfl hi hdg ?_
  simp only [hR]
  exact kk H locs ls a1 a2 a3 a4 a5
theorem x_aald6 (C : ax_C p s m args meth c cc nL own nm ret D T o c0) {i : Int32} {b : Nat} (ha : a < ax_top G) (hK : ax_K G a = 6) (hi : vp_in i (ax_N G a)) (hR : ax_R G a i.toNatClampNeg = some b) (hdg : decode cc pc = .ok (.aaload, 1)) (kk : ax_X p l e R s m args below meth c nL D T o c0 u0 Q G I L (pc + 1) lv (.ref b :: st)) : ax_X p l e R s m args below meth c nL D T o c0 u0 Q G I L pc lv (.int i :: .ref a :: st) := by
  intro H locs ls a1 a2 a3 a4 a5
  refine va_aldq C.1 C.2.1 C.2.2.2.2.2.1 a4 a 6 (ax_at_r ha hK (by decide) (by decide)) (C := RX6) rfl hi hdg ?_
  simp only [hR]
  exact kk H locs ls a1 a2 a3 a4 a5
theorem x_aald7 (C : ax_C p s m args meth c cc nL own nm ret D T o c0) {i : Int32} {b : Nat} (ha : a < ax_top G) (hK : ax_K G a = 7) (hi : vp_in i (ax_N G a)) (hR : ax_R G a i.toNatClampNeg = some b) (hdg : decode cc pc = .ok (.aaload, 1)) (kk : ax_X p l e R s m args below meth c nL D T o c0 u0 Q G I L (pc + 1) lv (.ref b :: st)) : ax_X p l e R s m args below meth c nL D T o c0 u0 Q G I L pc lv (.int i :: .ref a :: st) := by
  intro H locs ls a1 a2 a3 a4 a5
  have hat := ax_at_r (T := T) (o := o) (I := I) (L := L) ha hK (by decide) (by decide)
  have hlt : i.toNatClampNeg < ax_N G a := Nat.not_le.mp fun q => hi (Or.inr q)
  refine W.aald (v := .ref (o + b)) (ty := .array .long) C.1 C.2.1 (a4 a _ hat) ((C.2.2.2.2.2.1.2 7 _ rfl).1 (ax_N G a) (fun j => va_rf ((ax_R G a j).map (fun b => o + b)))) rfl (fun q => by cases q) (by show ¬ (i < 0 ∨ (arrV _ _ _).slots.size ≤ _); rw [arrV_size]; exact hi) (by show (arrV _ _ _).slots[_]? = _; rw [arrV_read _ _ hlt]; show some (va_rf ((ax_R G a i.toNatClampNeg).map _)) = _; rw [hR]; rfl) rfl rfl hdg (kk H locs ls a1 a2 a3 a4 a5)
theorem x_alen (C : ax_C p s m args meth c cc nL own nm ret D T o c0) {t : Nat} {v : Int32} (ha : a < ax_top G) (hK : ax_K G a = t) (ht : t < 8) (hv : nI (ax_N G a) = v) (hdg : decode cc pc = .ok (.arraylength, 1)) (kk : ax_X p l e R s m args below meth c nL D T o c0 u0 Q G I L (pc + 1) lv (.int v :: st)) : ax_X p l e R s m args below meth c nL D T o c0 u0 Q G I L pc lv (.ref a :: st) := by
  intro H locs ls a1 a2 a3 a4 a5
  have hty : ∀ t : Nat, t < 8 → ∃ ty, (ax_tys T)[t]? = some (T t, ty) := by
    intro t ht
    match t, ht with
    | 0, _ => exact ⟨_, rfl⟩
    | 1, _ => exact ⟨_, rfl⟩
    | 2, _ => exact ⟨_, rfl⟩
    | 3, _ => exact ⟨_, rfl⟩
    | 4, _ => exact ⟨_, rfl⟩
    | 5, _ => exact ⟨_, rfl⟩
    | 6, _ => exact ⟨_, rfl⟩
    | 7, _ => exact ⟨_, rfl⟩
  obtain ⟨ty, hty⟩ := hty t ht
  have hat : ∃ z : vp_A, (ax_ws T o G I L)[a]? = some (o + a, .inl (T t, z)) ∧ z.1 = ax_N G a := by
    rcases Nat.lt_or_ge t 2 with h | h
    · exact ⟨_, ax_at_i ha hK h, rfl⟩
    · rcases Nat.eq_or_lt_of_le h with h' | h'
      · subst h'
        exact ⟨_, ax_at_l ha hK, rfl⟩
      · exact ⟨_, ax_at_r ha hK h' ht, rfl⟩
  obtain ⟨z, h1, h2⟩ := hat
  exact va_alen C.1 C.2.1 C.2.2.2.2.2.1 a4 a t h1 hty (by rw [h2]; exact hv) hdg (kk H locs ls a1 a2 a3 a4 a5)
end AXH

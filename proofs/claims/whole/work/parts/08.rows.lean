/-! ===== rows for whole methods ===== -/
/-- a truth value as the machine holds it -/
def ax_b (b : Bool) : Int32 := bif b then 1 else 0
theorem ax_b_t : ax_b true = 1 := rfl
theorem ax_b_f : ax_b false = 0 := rfl
theorem ax_b_nar (b : Bool) : narrow .boolean (.int (ax_b b)) = .int (ax_b b) := by cases b <;> rfl
theorem ax_b_eq (b : Bool) : ax_b b = 0 ↔ b = false := by cases b <;> simp [ax_b]
/-- the answer, and the memory as it was -/
def ax_pure (G : ax_G) (I : ax_I) (L : ax_L) (r : Value) : Option Value → ax_G → ax_I → ax_L → Prop := fun v G' I' L' => v = some r ∧ G = G' ∧ I = I' ∧ L = L'
theorem ax_pure_i {G : ax_G} {I : ax_I} {L : ax_L} {r x : Value} (h : x = r) : ax_pure G I L r (some x) G I L := ⟨by rw [h], rfl, rfl, rfl⟩
section AXM
variable {p : Program} {l : Launch} {e : Env} {R : Room} {s : State} {m : MethodId} {args : Array Value} {below : List Frame} {meth : Method} {c : Code}
variable {cc : ByteArray} {nL : Nat} {own nm : String} {ret : Option FieldType} {D : va_G} {T : Nat → ClassId} {o c0 u0 : Nat} {Q : State → Prop}
variable {G : ax_G} {I : ax_I} {L : ax_L} {pc : Nat} {lv lv' : List (Nat × Value)} {st : List Value}
theorem x_lvs (h : lv = lv') (k : ax_X p l e R s m args below meth c nL D T o c0 u0 Q G I L pc lv' st) : ax_X p l e R s m args below meth c nL D T o c0 u0 Q G I L pc lv st := by rw [h]; exact k
theorem x_if_eq_b (C : ax_C p s m args meth c cc nL own nm ret D T o c0) {b : Bool} {off : Int} {tgt : Nat} (hdg : decode cc pc = .ok (.ifCond .eq off, 3)) (ht : (pc : Int) + off = (tgt : Int)) (kt : b = false → ax_X p l e R s m args below meth c nL D T o c0 u0 Q G I L tgt lv st) (kf : b = true → ax_X p l e R s m args below meth c nL D T o c0 u0 Q G I L (pc + 3) lv st) : ax_X p l e R s m args below meth c nL D T o c0 u0 Q G I L pc lv (.int (ax_b b) :: st) :=
  x_if_eq C hdg ht (fun h => kt ((ax_b_eq b).mp h)) (fun h => kf (by cases b with
    | true => rfl
    | false => exact absurd rfl h))
theorem x_if_ne_b (C : ax_C p s m args meth c cc nL own nm ret D T o c0) {b : Bool} {off : Int} {tgt : Nat} (hdg : decode cc pc = .ok (.ifCond .ne off, 3)) (ht : (pc : Int) + off = (tgt : Int)) (kt : b = true → ax_X p l e R s m args below meth c nL D T o c0 u0 Q G I L tgt lv st) (kf : b = false → ax_X p l e R s m args below meth c nL D T o c0 u0 Q G I L (pc + 3) lv st) : ax_X p l e R s m args below meth c nL D T o c0 u0 Q G I L pc lv (.int (ax_b b) :: st) :=
  x_if_ne C hdg ht (fun h => kt (by cases b with
    | true => rfl
    | false => exact absurd rfl h)) (fun h => kf ((ax_b_eq b).mp h))
theorem x_lc_eq (C : ax_C p s m args meth c cc nL own nm ret D T o c0) {x y : Int64} {off : Int} {tgt : Nat} (hd1 : decode cc pc = .ok (.lcmp, 1)) (hd2 : decode cc (pc + 1) = .ok (.ifCond .eq off, 3)) (ht : ((pc + 1 : Nat) : Int) + off = (tgt : Int)) (kt : x = y → ax_X p l e R s m args below meth c nL D T o c0 u0 Q G I L tgt lv st) (kf : ¬ x = y → ax_X p l e R s m args below meth c nL D T o c0 u0 Q G I L (pc + 4) lv st) : ax_X p l e R s m args below meth c nL D T o c0 u0 Q G I L pc lv (.long y :: .long x :: st) :=
  x_lcmp C hd1 (x_if_eq C hd2 ht (fun h => kt ((lg_cmp_eq x y).mp h)) (fun h => kf (fun q => h ((lg_cmp_eq x y).mpr q))))
theorem x_lc_ne (C : ax_C p s m args meth c cc nL own nm ret D T o c0) {x y : Int64} {off : Int} {tgt : Nat} (hd1 : decode cc pc = .ok (.lcmp, 1)) (hd2 : decode cc (pc + 1) = .ok (.ifCond .ne off, 3)) (ht : ((pc + 1 : Nat) : Int) + off = (tgt : Int)) (kt : ¬ x = y → ax_X p l e R s m args below meth c nL D T o c0 u0 Q G I L tgt lv st) (kf : x = y → ax_X p l e R s m args below meth c nL D T o c0 u0 Q G I L (pc + 4) lv st) : ax_X p l e R s m args below meth c nL D T o c0 u0 Q G I L pc lv (.long y :: .long x :: st) :=
  x_lcmp C hd1 (x_if_ne C hd2 ht (fun h => kt (fun q => h ((lg_cmp_eq x y).mpr q))) (fun h => kf ((lg_cmp_eq x y).mp h)))
theorem x_lc_lt (C : ax_C p s m args meth c cc nL own nm ret D T o c0) {x y : Int64} {off : Int} {tgt : Nat} (hd1 : decode cc pc = .ok (.lcmp, 1)) (hd2 : decode cc (pc + 1) = .ok (.ifCond .lt off, 3)) (ht : ((pc + 1 : Nat) : Int) + off = (tgt : Int)) (kt : x < y → ax_X p l e R s m args below meth c nL D T o c0 u0 Q G I L tgt lv st) (kf : ¬ x < y → ax_X p l e R s m args below meth c nL D T o c0 u0 Q G I L (pc + 4) lv st) : ax_X p l e R s m args below meth c nL D T o c0 u0 Q G I L pc lv (.long y :: .long x :: st) :=
  x_lcmp C hd1 (x_if_lt C hd2 ht (fun h => kt ((lg_cmp_lt x y).mp h)) (fun h => kf (fun q => h ((lg_cmp_lt x y).mpr q))))
theorem x_lc_ge (C : ax_C p s m args meth c cc nL own nm ret D T o c0) {x y : Int64} {off : Int} {tgt : Nat} (hd1 : decode cc pc = .ok (.lcmp, 1)) (hd2 : decode cc (pc + 1) = .ok (.ifCond .ge off, 3)) (ht : ((pc + 1 : Nat) : Int) + off = (tgt : Int)) (kt : y ≤ x → ax_X p l e R s m args below meth c nL D T o c0 u0 Q G I L tgt lv st) (kf : ¬ y ≤ x → ax_X p l e R s m args below meth c nL D T o c0 u0 Q G I L (pc + 4) lv st) : ax_X p l e R s m args below meth c nL D T o c0 u0 Q G I L pc lv (.long y :: .long x :: st) :=
  x_lcmp C hd1 (x_if_ge C hd2 ht (fun h => kt ((lg_cmp_ge x y).mp h)) (fun h => kf (fun q => h ((lg_cmp_ge x y).mpr q))))
theorem x_lc_gt (C : ax_C p s m args meth c cc nL own nm ret D T o c0) {x y : Int64} {off : Int} {tgt : Nat} (hd1 : decode cc pc = .ok (.lcmp, 1)) (hd2 : decode cc (pc + 1) = .ok (.ifCond .gt off, 3)) (ht : ((pc + 1 : Nat) : Int) + off = (tgt : Int)) (kt : y < x → ax_X p l e R s m args below meth c nL D T o c0 u0 Q G I L tgt lv st) (kf : ¬ y < x → ax_X p l e R s m args below meth c nL D T o c0 u0 Q G I L (pc + 4) lv st) : ax_X p l e R s m args below meth c nL D T o c0 u0 Q G I L pc lv (.long y :: .long x :: st) :=
  x_lcmp C hd1 (x_if_gt C hd2 ht (fun h => kt ((lg_cmp_gt x y).mp h)) (fun h => kf (fun q => h ((lg_cmp_gt x y).mpr q))))
theorem x_lc_le (C : ax_C p s m args meth c cc nL own nm ret D T o c0) {x y : Int64} {off : Int} {tgt : Nat} (hd1 : decode cc pc = .ok (.lcmp, 1)) (hd2 : decode cc (pc + 1) = .ok (.ifCond .le off, 3)) (ht : ((pc + 1 : Nat) : Int) + off = (tgt : Int)) (kt : x ≤ y → ax_X p l e R s m args below meth c nL D T o c0 u0 Q G I L tgt lv st) (kf : ¬ x ≤ y → ax_X p l e R s m args below meth c nL D T o c0 u0 Q G I L (pc + 4) lv st) : ax_X p l e R s m args below meth c nL D T o c0 u0 Q G I L pc lv (.long y :: .long x :: st) :=
  x_lcmp C hd1 (x_if_le C hd2 ht (fun h => kt ((lg_cmp_le x y).mp h)) (fun h => kf (fun q => h ((lg_cmp_le x y).mpr q))))
end AXM

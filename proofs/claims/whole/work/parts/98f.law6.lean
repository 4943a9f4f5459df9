/-! ===== the law: what the tables tell of the classes ===== -/
def ay_ty : List FieldType := [.int, .byte, .long, .object RX7, .object RX8, .object RX5, .object RX6, .array .long]
theorem ay_cls {s : State} {args : Array Value} (huse : ∀ w ∈ lw_use, w.before args s = true) (c : Nat) : ∃ (cC : ClassId) (iS : Nat → Nat), ∀ q, vwCl[c]? = some q → u_Kn s q.1 q.2.1 q.2.2 cC iS := by
  match c with
  | 0 =>
    obtain ⟨cC, iS, h⟩ := u_known (ws := lw_use) (T := TX0) (N := 7) huse cw0 (huse _ ((ax_inT 1 181 (by decide +kernel)) : Cond.instantiable RX0 7 ∈ lw_use))
    exact ⟨cC, iS, fun q hq => by cases hq; exact h⟩
  | 1 =>
    obtain ⟨cC, iS, h⟩ := u_known (ws := lw_use) (T := TX1) (N := 3) huse cw1 (huse _ ((ax_inT 1 95 (by decide +kernel)) : Cond.instantiable RX1 3 ∈ lw_use))
    exact ⟨cC, iS, fun q hq => by cases hq; exact h⟩
  | 2 =>
    obtain ⟨cC, iS, h⟩ := u_known (ws := lw_use) (T := TX2) (N := 3) huse cw2 (huse _ ((ax_inT 1 193 (by decide +kernel)) : Cond.instantiable RX2 3 ∈ lw_use))
    exact ⟨cC, iS, fun q hq => by cases hq; exact h⟩
  | 3 =>
    obtain ⟨cC, iS, h⟩ := u_known (ws := lw_use) (T := TX3) (N := 8) huse cw3 (huse _ ((ax_inT 1 187 (by decide +kernel)) : Cond.instantiable RX3 8 ∈ lw_use))
    exact ⟨cC, iS, fun q hq => by cases hq; exact h⟩
  | 4 =>
    obtain ⟨cC, iS, h⟩ := u_known (ws := lw_use) (T := TX4) (N := 2) huse cw4 (huse _ ((ax_inT 2 36 (by decide +kernel)) : Cond.instantiable RX4 2 ∈ lw_use))
    exact ⟨cC, iS, fun q hq => by cases hq; exact h⟩
  | 5 =>
    obtain ⟨cC, iS, h⟩ := u_known (ws := lw_use) (T := TX5) (N := 3) huse cw5 (huse _ ((ax_inT 2 49 (by decide +kernel)) : Cond.instantiable RX5 3 ∈ lw_use))
    exact ⟨cC, iS, fun q hq => by cases hq; exact h⟩
  | 6 =>
    obtain ⟨cC, iS, h⟩ := u_known (ws := lw_use) (T := TX6) (N := 4) huse cw6 (huse _ ((ax_inT 2 67 (by decide +kernel)) : Cond.instantiable RX6 4 ∈ lw_use))
    exact ⟨cC, iS, fun q hq => by cases hq; exact h⟩
  | 7 =>
    obtain ⟨cC, iS, h⟩ := u_known (ws := lw_use) (T := TX7) (N := 14) huse cw7 (huse _ ((ax_inT 1 25 (by decide +kernel)) : Cond.instantiable RX7 14 ∈ lw_use))
    exact ⟨cC, iS, fun q hq => by cases hq; exact h⟩
  | 8 =>
    obtain ⟨cC, iS, h⟩ := u_known (ws := lw_use) (T := TX8) (N := 4) huse cw8 (huse _ ((ax_inT 1 122 (by decide +kernel)) : Cond.instantiable RX8 4 ∈ lw_use))
    exact ⟨cC, iS, fun q hq => by cases hq; exact h⟩
  | 9 =>
    obtain ⟨cC, iS, h⟩ := u_known (ws := lw_use) (T := TX9) (N := 10) huse cw9 (huse _ ((ax_inT 1 115 (by decide +kernel)) : Cond.instantiable RX9 10 ∈ lw_use))
    exact ⟨cC, iS, fun q hq => by cases hq; exact h⟩
  | 10 =>
    obtain ⟨cC, iS, h⟩ := u_known (ws := lw_use) (T := TX10) (N := 17) huse cw10 (huse _ ((ax_inT 1 17 (by decide +kernel)) : Cond.instantiable RX10 17 ∈ lw_use))
    exact ⟨cC, iS, fun q hq => by cases hq; exact h⟩
  | 11 =>
    obtain ⟨cC, iS, h⟩ := u_known (ws := lw_use) (T := TX11) (N := 46) huse cw11 (huse _ ((ax_inT 5 81 (by decide +kernel)) : Cond.instantiable RX11 46 ∈ lw_use))
    exact ⟨cC, iS, fun q hq => by cases hq; exact h⟩
  | c + 12 => exact ⟨0, fun _ => 0, fun q hq => by cases hq⟩
theorem ay_arr {s : State} {args : Array Value} (huse : ∀ w ∈ lw_use, w.before args s = true) (k : Nat) : ∃ cA : ClassId, ∀ ty, ay_ty[k]? = some ty → ArrOfT s cA ty ∧ va_RA s cA ty := by
  match k with
  | 0 =>
    obtain ⟨cB, kB, comp, h1, h2, h3⟩ := Cond.arrayClass_spec (huse _ ax_arI)
    exact ⟨cB, fun q hq => by cases hq; exact ⟨fun n z => ⟨fun k h => (by cases h), kB, h2, comp, h3⟩, h1⟩⟩
  | 1 =>
    obtain ⟨cB, kB, comp, h1, h2, h3⟩ := Cond.arrayClass_spec (huse _ ax_arB)
    exact ⟨cB, fun q hq => by cases hq; exact ⟨fun n z => ⟨fun k h => (by cases h), kB, h2, comp, h3⟩, h1⟩⟩
  | 2 =>
    obtain ⟨cB, kB, comp, h1, h2, h3⟩ := Cond.arrayClass_spec (huse _ ax_arL)
    exact ⟨cB, fun q hq => by cases hq; exact ⟨fun n z => ⟨fun k h => (by cases h), kB, h2, comp, h3⟩, h1⟩⟩
  | 3 =>
    obtain ⟨comp, cB, kB, h1, -, h3, h4, h5⟩ := Cond.arrayOver_spec (huse _ ((ax_inT 1 101 (by decide +kernel)) : Cond.arrayOver (.object RX7) ∈ lw_use))
    exact ⟨cB, fun q hq => by cases hq; exact ⟨fun n z => ⟨fun k h => (by cases h), kB, h3, comp, h4⟩, kB, comp, h3, h4, h1, h5⟩⟩
  | 4 =>
    obtain ⟨comp, cB, kB, h1, -, h3, h4, h5⟩ := Cond.arrayOver_spec (huse _ ((ax_inT 1 121 (by decide +kernel)) : Cond.arrayOver (.object RX8) ∈ lw_use))
    exact ⟨cB, fun q hq => by cases hq; exact ⟨fun n z => ⟨fun k h => (by cases h), kB, h3, comp, h4⟩, kB, comp, h3, h4, h1, h5⟩⟩
  | 5 =>
    obtain ⟨comp, cB, kB, h1, -, h3, h4, h5⟩ := Cond.arrayOver_spec (huse _ ((ax_inT 2 28 (by decide +kernel)) : Cond.arrayOver (.object RX5) ∈ lw_use))
    exact ⟨cB, fun q hq => by cases hq; exact ⟨fun n z => ⟨fun k h => (by cases h), kB, h3, comp, h4⟩, kB, comp, h3, h4, h1, h5⟩⟩
  | 6 =>
    obtain ⟨comp, cB, kB, h1, -, h3, h4, h5⟩ := Cond.arrayOver_spec (huse _ ((ax_inT 2 30 (by decide +kernel)) : Cond.arrayOver (.object RX6) ∈ lw_use))
    exact ⟨cB, fun q hq => by cases hq; exact ⟨fun n z => ⟨fun k h => (by cases h), kB, h3, comp, h4⟩, kB, comp, h3, h4, h1, h5⟩⟩
  | 7 =>
    obtain ⟨comp, cB, kB, h1, -, h3, h4, h5⟩ := arrayOverA_spec (huse _ ((ax_inT 1 199 (by decide +kernel)) : Cond.arrayOver (.array .long) ∈ lw_use))
    exact ⟨cB, fun q hq => by cases hq; exact ⟨fun n z => ⟨fun k h => (by cases h), kB, h3, comp, h4⟩, h5⟩⟩
  | k + 8 => exact ⟨0, fun q hq => by cases hq⟩
theorem ay_K {s : State} {args : Array Value} (huse : ∀ w ∈ lw_use, w.before args s = true) : ∃ (D : va_G) (T : Nat → ClassId), va_K D vwCl (ax_tys T) s := by
  refine ⟨(fun c => Classical.choose (ay_cls huse c), fun c => Classical.choose (Classical.choose_spec (ay_cls huse c))), fun k => Classical.choose (ay_arr huse k), fun c q hq => Classical.choose_spec (Classical.choose_spec (ay_cls huse c)) q hq, fun k q hq => ?_⟩
  have h := Classical.choose_spec (ay_arr huse k)
  match k, hq, h with
  | 0, hq, h => cases hq; exact h _ rfl
  | 1, hq, h => cases hq; exact h _ rfl
  | 2, hq, h => cases hq; exact h _ rfl
  | 3, hq, h => cases hq; exact h _ rfl
  | 4, hq, h => cases hq; exact h _ rfl
  | 5, hq, h => cases hq; exact h _ rfl
  | 6, hq, h => cases hq; exact h _ rfl
  | 7, hq, h => cases hq; exact h _ rfl
  | k + 8, hq, h => cases hq

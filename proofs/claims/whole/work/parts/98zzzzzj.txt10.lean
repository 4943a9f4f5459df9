/-! ===== text: both read the same: chain ===== -/
theorem t_s1 {r c s : Nat} {W T F T' : Nat → Int32} {B : Nat → Nat → Int64} (hs : s + 14 ≤ r) (hc : c ≤ 100) (hT : tT W T c) {N : Nat} (A0 : tA0 r c s W T F T' B N) (A2 : tA2 r c s W T F T' B N) : tA1 r c s W T F T' B (N + 1) := by
  intro e he h k cd u S hh hx hS hfa hB hfl hd
  have hx' : (ax_tx T c N 0 e (h, k, false, cd)).bind (ax_tx T c N 2 e) = some u := t_tx1.symm.trans hx
  cases h0 : ax_tx T c N 0 e (h, k, false, cd) with
  | none => rw [h0] at hx'; cases hx'
  | some u1 =>
    rw [h0] at hx'
    have hx2 : ax_tx T c N 2 e u1 = some u := hx'
    have Q := A0 e he h k cd u1 S hh h0 hS hfa hB hfl (by omega)
    have gr := ax_tx_gr (s := (h, k, false, cd)) hh h0
    have fr := fun q (hq : tf r (11 + 9 * e) q) => (tf_tO (s := s) (W := W) (c := c) he hq S).1
    obtain ⟨S2, e0, e1, e2, e3, e4, e5, e6, e7⟩ := t_chn (r := r) (c := c) (s := s) (e := e) (W := W) (one := tO r c s W e) (S := S) rfl
    show tQ F T' B _ _ 1 k cd (ax_chnF r c s e W (tO r c s W e) S) u
    rw [e0]
    obtain ⟨q1, q2, q3⟩ := Q
    obtain ⟨h1, k1, w1, cd1⟩ := u1
    dsimp only at q1 q2 q3
    have gr1 : h1 ≤ c := gr.2.1
    have gr2 : k1 + h ≤ k + h1 := gr.2.2
    cases w1 with
    | true =>
      have R := A2 e he h1 k1 true cd1 u S2 100 0 gr1 hx2 (e1.trans q1) (e2.trans q2) (fun hw => by cases hw)
      have ew : u.2.2.1 = true := t_tx2f hx2
      exact ⟨R.1, R.2.1, fun hw => absurd (hw.symm.trans ew) (by decide)⟩
    | false =>
      obtain ⟨q4, q5, q6, q7, q8⟩ := q3 rfl
      have lt := q4.lt q5
      have tb2 : tB s F T' B S2 := by
        obtain ⟨b1, b2, b3⟩ := hB
        refine ⟨?_, ?_, fun f z => ?_⟩
        · rw [e7 _ (by omega), fr _ (by unfold tf; omega)]; exact b1
        · rw [e7 _ (by omega), fr _ (by unfold tf; omega)]; exact b2
        · rw [e7 _ (by omega), fr _ (by unfold tf; omega)]; exact b3 f z
      have R := A2 e he h1 k1 false cd1 u S2 100 0 gr1 hx2 (e1.trans q1) (e2.trans q2) (fun _ => ⟨by omega, tb2, ⟨e3.trans q7.1, e4.trans q7.2.1, e5.trans q7.2.2⟩, by omega, by omega, ?_⟩)
      · exact R.comp q4 (by rw [q5]) (fun i hi => q6 i hi)
      · rw [q5]
        exact ⟨e6.1.trans q8.1, e6.2.1.trans q8.2.1, fun z hz => (e6.2.2 z hz).trans (q8.2.2 z hz)⟩

/-! ===== text: both read the same: one ===== -/
theorem t_s0 {r c s : Nat} {W T F T' : Nat → Int32} {B : Nat → Nat → Int64} (hs : s + 14 ≤ r) (hc : c ≤ 100) (hT : tT W T c) {N : Nat} (A3 : tA3 r c s W T F T' B N) : tA0 r c s W T F T' B (N + 1) := by
  intro e he h k cd u S hh hx hS hfa hB hfl hd
  exact t_one hs he hT (fun he4 h k cd u S h1 h2 h3 h4 h5 h6 h7 => A3 (e + 1) (by omega) h k cd u S h1 h2 h3 h4 h5 h6 h7) hh hx hS hfa hB hfl hd

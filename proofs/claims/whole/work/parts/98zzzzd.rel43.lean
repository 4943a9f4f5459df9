/-! ===== connected: both programs ===== -/
set_option maxRecDepth 20000 in
theorem gz_cnv {I : ax_I} {L : ax_L} {mp fr tg gn gc : Nat → Nat} : ax_cnv I L 361 1 621 mp fr tg gn gc = if (ax_sz ((ax_rfo 373 479 (gn (tg 6)) 0 (gn (tg 6)) (ax_nth I 1 373 (tg 6) (gn (tg 6)) (gc (tg 6)) (ax_apt I 7 (9 * (mp 6)) 621 479 L 3))) 479) (gn (tg 6))) = true then (if (ax_gbv (ax_woL (ax_ldI (ax_u I 373 2 (nI (gn (tg 6)))) 363 (gn (fr 1)) (gn (tg 1))) (ax_ldL (ax_u I 373 2 (nI (gn (tg 6)))) (ax_rfo 373 479 (gn (tg 6)) 0 (gn (tg 6)) (ax_nth I 1 373 (tg 6) (gn (tg 6)) (gc (tg 6)) (ax_apt I 7 (9 * (mp 6)) 621 479 L 3))) 363 1 (mp 1) (fr 1) (tg 1) (gn (fr 1)) (gc (fr 1)) (gn (tg 1)) (gc (tg 1))) 363 1 (mp 1) (gn (fr 1)) (gn (tg 1))) 363 621 (gn (fr 1)) (gn (tg 1))) = true then (if (ax_gbv (ax_rfo 373 621 (gn (tg 2)) 0 ((gn (tg 2)) - 0) (ax_woL (ax_ldI (ax_woI (ax_ldI (ax_u I 373 2 (nI (gn (tg 6)))) 363 (gn (fr 1)) (gn (tg 1))) 363 (gn (fr 1)) (gn (tg 1))) 363 (gn (fr 2)) (gn (tg 2))) (ax_ldL (ax_woI (ax_ldI (ax_u I 373 2 (nI (gn (tg 6)))) 363 (gn (fr 1)) (gn (tg 1))) 363 (gn (fr 1)) (gn (tg 1))) (ax_cp (ax_apt (ax_woI (ax_ldI (ax_u I 373 2 (nI (gn (tg 6)))) 363 (gn (fr 1)) (gn (tg 1))) 363 (gn (fr 1)) (gn (tg 1))) 7 (9 * (mp 5)) 621 479 (ax_gbL (ax_woL (ax_ldI (ax_u I 373 2 (nI (gn (tg 6)))) 363 (gn (fr 1)) (gn (tg 1))) (ax_ldL (ax_u I 373 2 (nI (gn (tg 6)))) (ax_rfo 373 479 (gn (tg 6)) 0 (gn (tg 6)) (ax_nth I 1 373 (tg 6) (gn (tg 6)) (gc (tg 6)) (ax_apt I 7 (9 * (mp 6)) 621 479 L 3))) 363 1 (mp 1) (fr 1) (tg 1) (gn (fr 1)) (gc (fr 1)) (gn (tg 1)) (gc (tg 1))) 363 1 (mp 1) (gn (fr 1)) (gn (tg 1))) 363 621 (gn (fr 1)) (gn (tg 1))) 3) 479 621 0 0 3) 363 1 (mp 2) (fr 2) (tg 2) (gn (fr 2)) (gc (fr 2)) (gn (tg 2)) (gc (tg 2))) 363 1 (mp 2) (gn (fr 2)) (gn (tg 2)))) 363 621 (gn (fr 2)) (gn (tg 2))) = true then true else false) else false) else false := rfl
set_option maxRecDepth 20000 in
theorem gz_cnI {I : ax_I} {L : ax_L} {mp fr tg gn gc : Nat → Nat} : ax_cnI I L 361 1 621 mp fr tg gn gc = if (ax_sz ((ax_rfo 373 479 (gn (tg 6)) 0 (gn (tg 6)) (ax_nth I 1 373 (tg 6) (gn (tg 6)) (gc (tg 6)) (ax_apt I 7 (9 * (mp 6)) 621 479 L 3))) 479) (gn (tg 6))) = true then (if (ax_gbv (ax_woL (ax_ldI (ax_u I 373 2 (nI (gn (tg 6)))) 363 (gn (fr 1)) (gn (tg 1))) (ax_ldL (ax_u I 373 2 (nI (gn (tg 6)))) (ax_rfo 373 479 (gn (tg 6)) 0 (gn (tg 6)) (ax_nth I 1 373 (tg 6) (gn (tg 6)) (gc (tg 6)) (ax_apt I 7 (9 * (mp 6)) 621 479 L 3))) 363 1 (mp 1) (fr 1) (tg 1) (gn (fr 1)) (gc (fr 1)) (gn (tg 1)) (gc (tg 1))) 363 1 (mp 1) (gn (fr 1)) (gn (tg 1))) 363 621 (gn (fr 1)) (gn (tg 1))) = true then (if (ax_gbv (ax_rfo 373 621 (gn (tg 2)) 0 ((gn (tg 2)) - 0) (ax_woL (ax_ldI (ax_woI (ax_ldI (ax_u I 373 2 (nI (gn (tg 6)))) 363 (gn (fr 1)) (gn (tg 1))) 363 (gn (fr 1)) (gn (tg 1))) 363 (gn (fr 2)) (gn (tg 2))) (ax_ldL (ax_woI (ax_ldI (ax_u I 373 2 (nI (gn (tg 6)))) 363 (gn (fr 1)) (gn (tg 1))) 363 (gn (fr 1)) (gn (tg 1))) (ax_cp (ax_apt (ax_woI (ax_ldI (ax_u I 373 2 (nI (gn (tg 6)))) 363 (gn (fr 1)) (gn (tg 1))) 363 (gn (fr 1)) (gn (tg 1))) 7 (9 * (mp 5)) 621 479 (ax_gbL (ax_woL (ax_ldI (ax_u I 373 2 (nI (gn (tg 6)))) 363 (gn (fr 1)) (gn (tg 1))) (ax_ldL (ax_u I 373 2 (nI (gn (tg 6)))) (ax_rfo 373 479 (gn (tg 6)) 0 (gn (tg 6)) (ax_nth I 1 373 (tg 6) (gn (tg 6)) (gc (tg 6)) (ax_apt I 7 (9 * (mp 6)) 621 479 L 3))) 363 1 (mp 1) (fr 1) (tg 1) (gn (fr 1)) (gc (fr 1)) (gn (tg 1)) (gc (tg 1))) 363 1 (mp 1) (gn (fr 1)) (gn (tg 1))) 363 621 (gn (fr 1)) (gn (tg 1))) 3) 479 621 0 0 3) 363 1 (mp 2) (fr 2) (tg 2) (gn (fr 2)) (gc (fr 2)) (gn (tg 2)) (gc (tg 2))) 363 1 (mp 2) (gn (fr 2)) (gn (tg 2)))) 363 621 (gn (fr 2)) (gn (tg 2))) = true then (ax_woI (ax_ldI (ax_woI (ax_ldI (ax_woI (ax_ldI (ax_u I 373 2 (nI (gn (tg 6)))) 363 (gn (fr 1)) (gn (tg 1))) 363 (gn (fr 1)) (gn (tg 1))) 363 (gn (fr 2)) (gn (tg 2))) 363 (gn (fr 2)) (gn (tg 2))) 363 (gn (fr 4)) (gn (tg 4))) 363 (gn (fr 4)) (gn (tg 4))) else (ax_woI (ax_ldI (ax_woI (ax_ldI (ax_u I 373 2 (nI (gn (tg 6)))) 363 (gn (fr 1)) (gn (tg 1))) 363 (gn (fr 1)) (gn (tg 1))) 363 (gn (fr 2)) (gn (tg 2))) 363 (gn (fr 2)) (gn (tg 2)))) else (ax_woI (ax_ldI (ax_u I 373 2 (nI (gn (tg 6)))) 363 (gn (fr 1)) (gn (tg 1))) 363 (gn (fr 1)) (gn (tg 1)))) else (ax_u I 373 2 (nI (gn (tg 6)))) := rfl
set_option maxRecDepth 20000 in
theorem gz_cnL {I : ax_I} {L : ax_L} {mp fr tg gn gc : Nat → Nat} : ax_cnL I L 361 1 621 mp fr tg gn gc = if (ax_sz ((ax_rfo 373 479 (gn (tg 6)) 0 (gn (tg 6)) (ax_nth I 1 373 (tg 6) (gn (tg 6)) (gc (tg 6)) (ax_apt I 7 (9 * (mp 6)) 621 479 L 3))) 479) (gn (tg 6))) = true then (if (ax_gbv (ax_woL (ax_ldI (ax_u I 373 2 (nI (gn (tg 6)))) 363 (gn (fr 1)) (gn (tg 1))) (ax_ldL (ax_u I 373 2 (nI (gn (tg 6)))) (ax_rfo 373 479 (gn (tg 6)) 0 (gn (tg 6)) (ax_nth I 1 373 (tg 6) (gn (tg 6)) (gc (tg 6)) (ax_apt I 7 (9 * (mp 6)) 621 479 L 3))) 363 1 (mp 1) (fr 1) (tg 1) (gn (fr 1)) (gc (fr 1)) (gn (tg 1)) (gc (tg 1))) 363 1 (mp 1) (gn (fr 1)) (gn (tg 1))) 363 621 (gn (fr 1)) (gn (tg 1))) = true then (if (ax_gbv (ax_rfo 373 621 (gn (tg 2)) 0 ((gn (tg 2)) - 0) (ax_woL (ax_ldI (ax_woI (ax_ldI (ax_u I 373 2 (nI (gn (tg 6)))) 363 (gn (fr 1)) (gn (tg 1))) 363 (gn (fr 1)) (gn (tg 1))) 363 (gn (fr 2)) (gn (tg 2))) (ax_ldL (ax_woI (ax_ldI (ax_u I 373 2 (nI (gn (tg 6)))) 363 (gn (fr 1)) (gn (tg 1))) 363 (gn (fr 1)) (gn (tg 1))) (ax_cp (ax_apt (ax_woI (ax_ldI (ax_u I 373 2 (nI (gn (tg 6)))) 363 (gn (fr 1)) (gn (tg 1))) 363 (gn (fr 1)) (gn (tg 1))) 7 (9 * (mp 5)) 621 479 (ax_gbL (ax_woL (ax_ldI (ax_u I 373 2 (nI (gn (tg 6)))) 363 (gn (fr 1)) (gn (tg 1))) (ax_ldL (ax_u I 373 2 (nI (gn (tg 6)))) (ax_rfo 373 479 (gn (tg 6)) 0 (gn (tg 6)) (ax_nth I 1 373 (tg 6) (gn (tg 6)) (gc (tg 6)) (ax_apt I 7 (9 * (mp 6)) 621 479 L 3))) 363 1 (mp 1) (fr 1) (tg 1) (gn (fr 1)) (gc (fr 1)) (gn (tg 1)) (gc (tg 1))) 363 1 (mp 1) (gn (fr 1)) (gn (tg 1))) 363 621 (gn (fr 1)) (gn (tg 1))) 3) 479 621 0 0 3) 363 1 (mp 2) (fr 2) (tg 2) (gn (fr 2)) (gc (fr 2)) (gn (tg 2)) (gc (tg 2))) 363 1 (mp 2) (gn (fr 2)) (gn (tg 2)))) 363 621 (gn (fr 2)) (gn (tg 2))) = true then (ax_rfo 382 621 (gn (tg 4)) 0 ((gn (tg 4)) - 0) (ax_woL (ax_ldI (ax_woI (ax_ldI (ax_woI (ax_ldI (ax_u I 373 2 (nI (gn (tg 6)))) 363 (gn (fr 1)) (gn (tg 1))) 363 (gn (fr 1)) (gn (tg 1))) 363 (gn (fr 2)) (gn (tg 2))) 363 (gn (fr 2)) (gn (tg 2))) 363 (gn (fr 4)) (gn (tg 4))) (ax_ldL (ax_woI (ax_ldI (ax_woI (ax_ldI (ax_u I 373 2 (nI (gn (tg 6)))) 363 (gn (fr 1)) (gn (tg 1))) 363 (gn (fr 1)) (gn (tg 1))) 363 (gn (fr 2)) (gn (tg 2))) 363 (gn (fr 2)) (gn (tg 2))) (ax_gbL (ax_rfo 373 621 (gn (tg 2)) 0 ((gn (tg 2)) - 0) (ax_woL (ax_ldI (ax_woI (ax_ldI (ax_u I 373 2 (nI (gn (tg 6)))) 363 (gn (fr 1)) (gn (tg 1))) 363 (gn (fr 1)) (gn (tg 1))) 363 (gn (fr 2)) (gn (tg 2))) (ax_ldL (ax_woI (ax_ldI (ax_u I 373 2 (nI (gn (tg 6)))) 363 (gn (fr 1)) (gn (tg 1))) 363 (gn (fr 1)) (gn (tg 1))) (ax_cp (ax_apt (ax_woI (ax_ldI (ax_u I 373 2 (nI (gn (tg 6)))) 363 (gn (fr 1)) (gn (tg 1))) 363 (gn (fr 1)) (gn (tg 1))) 7 (9 * (mp 5)) 621 479 (ax_gbL (ax_woL (ax_ldI (ax_u I 373 2 (nI (gn (tg 6)))) 363 (gn (fr 1)) (gn (tg 1))) (ax_ldL (ax_u I 373 2 (nI (gn (tg 6)))) (ax_rfo 373 479 (gn (tg 6)) 0 (gn (tg 6)) (ax_nth I 1 373 (tg 6) (gn (tg 6)) (gc (tg 6)) (ax_apt I 7 (9 * (mp 6)) 621 479 L 3))) 363 1 (mp 1) (fr 1) (tg 1) (gn (fr 1)) (gc (fr 1)) (gn (tg 1)) (gc (tg 1))) 363 1 (mp 1) (gn (fr 1)) (gn (tg 1))) 363 621 (gn (fr 1)) (gn (tg 1))) 3) 479 621 0 0 3) 363 1 (mp 2) (fr 2) (tg 2) (gn (fr 2)) (gc (fr 2)) (gn (tg 2)) (gc (tg 2))) 363 1 (mp 2) (gn (fr 2)) (gn (tg 2)))) 363 621 (gn (fr 2)) (gn (tg 2))) 363 1 (mp 4) (fr 4) (tg 4) (gn (fr 4)) (gc (fr 4)) (gn (tg 4)) (gc (tg 4))) 363 1 (mp 4) (gn (fr 4)) (gn (tg 4)))) else (ax_gbL (ax_rfo 373 621 (gn (tg 2)) 0 ((gn (tg 2)) - 0) (ax_woL (ax_ldI (ax_woI (ax_ldI (ax_u I 373 2 (nI (gn (tg 6)))) 363 (gn (fr 1)) (gn (tg 1))) 363 (gn (fr 1)) (gn (tg 1))) 363 (gn (fr 2)) (gn (tg 2))) (ax_ldL (ax_woI (ax_ldI (ax_u I 373 2 (nI (gn (tg 6)))) 363 (gn (fr 1)) (gn (tg 1))) 363 (gn (fr 1)) (gn (tg 1))) (ax_cp (ax_apt (ax_woI (ax_ldI (ax_u I 373 2 (nI (gn (tg 6)))) 363 (gn (fr 1)) (gn (tg 1))) 363 (gn (fr 1)) (gn (tg 1))) 7 (9 * (mp 5)) 621 479 (ax_gbL (ax_woL (ax_ldI (ax_u I 373 2 (nI (gn (tg 6)))) 363 (gn (fr 1)) (gn (tg 1))) (ax_ldL (ax_u I 373 2 (nI (gn (tg 6)))) (ax_rfo 373 479 (gn (tg 6)) 0 (gn (tg 6)) (ax_nth I 1 373 (tg 6) (gn (tg 6)) (gc (tg 6)) (ax_apt I 7 (9 * (mp 6)) 621 479 L 3))) 363 1 (mp 1) (fr 1) (tg 1) (gn (fr 1)) (gc (fr 1)) (gn (tg 1)) (gc (tg 1))) 363 1 (mp 1) (gn (fr 1)) (gn (tg 1))) 363 621 (gn (fr 1)) (gn (tg 1))) 3) 479 621 0 0 3) 363 1 (mp 2) (fr 2) (tg 2) (gn (fr 2)) (gc (fr 2)) (gn (tg 2)) (gc (tg 2))) 363 1 (mp 2) (gn (fr 2)) (gn (tg 2)))) 363 621 (gn (fr 2)) (gn (tg 2)))) else (ax_gbL (ax_woL (ax_ldI (ax_u I 373 2 (nI (gn (tg 6)))) 363 (gn (fr 1)) (gn (tg 1))) (ax_ldL (ax_u I 373 2 (nI (gn (tg 6)))) (ax_rfo 373 479 (gn (tg 6)) 0 (gn (tg 6)) (ax_nth I 1 373 (tg 6) (gn (tg 6)) (gc (tg 6)) (ax_apt I 7 (9 * (mp 6)) 621 479 L 3))) 363 1 (mp 1) (fr 1) (tg 1) (gn (fr 1)) (gc (fr 1)) (gn (tg 1)) (gc (tg 1))) 363 1 (mp 1) (gn (fr 1)) (gn (tg 1))) 363 621 (gn (fr 1)) (gn (tg 1)))) else (ax_rfo 373 479 (gn (tg 6)) 0 (gn (tg 6)) (ax_nth I 1 373 (tg 6) (gn (tg 6)) (gc (tg 6)) (ax_apt I 7 (9 * (mp 6)) 621 479 L 3))) := rfl
/-- an image that is reduced, in both -/
theorem gz_two {I : ax_I} {L M : ax_L} {S : Nat → Int32} {mp fr tg gn gc : Nat → Nat} {e a d s : Nat} {f : Nat → Int} (hW : rl_Wg S) (hT : gw_M I S mp fr tg gn) (hsn : ∀ g, g < 6 → S (14 * g) = nI (gn g) ∧ gn g ≤ 3) (hsc : ∀ g, g < 6 → S (14 * g + 1) = nI (gc g) ∧ gc g ≤ 4) (he : e < 7) (ha : a ≠ 479) (h1 : ∀ z, z < 3 → L a z = M s z) (h2 : ∀ z, z < 6 → M s z = Int64.ofInt (f z)) (h3 : ∀ z, gn (fr e) ≤ z → f z = 0) : (∀ z, z < 3 → ax_apt I 7 (9 * (mp e)) a 479 L 3 479 z = gw_im S d s (mp e) (gn (fr e)) (gn (tg e)) M d z) ∧ ∀ z, z < 6 → gw_im S d s (mp e) (gn (fr e)) (gn (tg e)) M d z = Int64.ofInt (gz_j (gn (fr e)) (gn (tg e)) (mx_t S (mp e)) f z) := by
  obtain ⟨hM, t1, t2⟩ := hT e he
  have b1 := (hsn _ hM.2.1).2
  have b2 := (hsn _ hM.2.2.1).2
  refine ⟨(gw_1 (a := a) (b := 479) (d := d) (s := s) (L1 := L) (L2 := M) b1 b2 ha t1 t2 h1 (fun z h4 h5 => by rw [h2 z h5, h3 z h4]; rfl)).1, gz_gw b1 b2 h2⟩
set_option maxRecDepth 20000 in
theorem gz_conn {I : ax_I} {L M0 : ax_L} {S : Nat → Int32} {mp fr tg gn gc : Nat → Nat} {x y u : Int32} {c : Nat → Int} (hSt : rl_St 1 I S) (hT : gw_M I S mp fr tg gn) (hsn : ∀ g, g < 6 → S (14 * g) = nI (gn g) ∧ gn g ≤ 3) (hsc : ∀ g, g < 6 → S (14 * g + 1) = nI (gc g) ∧ gc g ≤ 4) (hE : gw_E fr tg) (wl6 : gw_w mp fr tg gn gc S 6 = true) (ex : ax_exRv (fun _ _ => 0) 639 (mp 2) (fr 2) (tg 2) (mp 3) (fr 3) (tg 3) gn gc S = true) (wa : ax_gaRv (fun _ _ => 0) (fun _ _ => 0) 639 5 3 1 6 mp fr tg gn gc S = true) (one : ∀ z, z < gn (tg 1) → mx_H S gn gc (mp 1) (fr 1) (tg 1) z z = 1) (h43 : ∀ z, z < gn (fr 2) → (mx_H S gn gc (mp 2) (fr 2) (tg 2) (gn (tg 2) + z) (gn (tg 2) + z)).natAbs ≤ 4374)
    (hc9 : ∀ z, (c z).natAbs ≤ 999) (hc0 : ∀ z, gn (tg 1) ≤ z → c z = 0) (hL : ∀ z, z < 3 → L 621 z = Int64.ofInt (c z)) (hst : ∀ t (N : ax_L), ∀ z, z < 6 → ax_st t (gn (fr 6)) x.toInt64 y.toInt64 u.toInt64 N t z = Int64.ofInt (c z)) :
    ax_cnv I L 361 1 621 mp fr tg gn gc = ax_all0 (ax_rs 665 644 0 ((gn (tg 6)) - 0) (ax_N1t 639 (tg 6) 644 (gn (tg 6)) (gc (tg 6)) S (gw_im S 665 666 (mp 6) (gn (fr 6)) (gn (tg 6)) (ax_st 666 (gn (fr 6)) x.toInt64 y.toInt64 u.toInt64 M0)))) 665 0 6 ∧ (∀ q, (q < 366 ∨ (480 < q ∧ q ≠ 621)) → ax_cnL I L 361 1 621 mp fr tg gn gc q = L q) ∧ (∀ q, (q < 364 ∨ 457 < q) → ax_cnI I L 361 1 621 mp fr tg gn gc q = I q) ∧ (ax_all0 (ax_rs 665 644 0 ((gn (tg 6)) - 0) (ax_N1t 639 (tg 6) 644 (gn (tg 6)) (gc (tg 6)) S (gw_im S 665 666 (mp 6) (gn (fr 6)) (gn (tg 6)) (ax_st 666 (gn (fr 6)) x.toInt64 y.toInt64 u.toInt64 M0)))) 665 0 6 = true → ∀ k, k < gn (fr 2) → ax_cnL I L 361 1 621 mp fr tg gn gc 621 k = (ax_rs 655 646 0 ((gn (tg 4)) - 0) (ax_M1t 639 (mp 4) (tg 4) (gn (fr 4)) (gn (tg 4)) (gc (tg 4)) S (ax_cb 639 (gn (fr 2)) (gn (tg 2)) (ax_M1t 639 (mp 2) (tg 2) (gn (fr 2)) (gn (tg 2)) (gc (tg 2)) S (ax_st 655 3 ((ax_rs 665 644 0 ((gn (tg 5)) - 0) (ax_N1t 639 (tg 5) 644 (gn (tg 5)) (gc (tg 5)) S (gw_im S 665 655 (mp 5) (gn (fr 5)) (gn (tg 5)) (ax_cb 639 (gn (fr 1)) (gn (tg 1)) (ax_M1t 639 (mp 1) (tg 1) (gn (fr 1)) (gn (tg 1)) (gc (tg 1)) S (ax_st 655 (gn (fr 6)) x.toInt64 y.toInt64 u.toInt64 (ax_rs 665 644 0 ((gn (tg 6)) - 0) (ax_N1t 639 (tg 6) 644 (gn (tg 6)) (gc (tg 6)) S (gw_im S 665 666 (mp 6) (gn (fr 6)) (gn (tg 6)) (ax_st 666 (gn (fr 6)) x.toInt64 y.toInt64 u.toInt64 M0))))))).2))) 665 0) ((ax_rs 665 644 0 ((gn (tg 5)) - 0) (ax_N1t 639 (tg 5) 644 (gn (tg 5)) (gc (tg 5)) S (gw_im S 665 655 (mp 5) (gn (fr 5)) (gn (tg 5)) (ax_cb 639 (gn (fr 1)) (gn (tg 1)) (ax_M1t 639 (mp 1) (tg 1) (gn (fr 1)) (gn (tg 1)) (gc (tg 1)) S (ax_st 655 (gn (fr 6)) x.toInt64 y.toInt64 u.toInt64 (ax_rs 665 644 0 ((gn (tg 6)) - 0) (ax_N1t 639 (tg 6) 644 (gn (tg 6)) (gc (tg 6)) S (gw_im S 665 666 (mp 6) (gn (fr 6)) (gn (tg 6)) (ax_st 666 (gn (fr 6)) x.toInt64 y.toInt64 u.toInt64 M0))))))).2))) 665 1) ((ax_rs 665 644 0 ((gn (tg 5)) - 0) (ax_N1t 639 (tg 5) 644 (gn (tg 5)) (gc (tg 5)) S (gw_im S 665 655 (mp 5) (gn (fr 5)) (gn (tg 5)) (ax_cb 639 (gn (fr 1)) (gn (tg 1)) (ax_M1t 639 (mp 1) (tg 1) (gn (fr 1)) (gn (tg 1)) (gc (tg 1)) S (ax_st 655 (gn (fr 6)) x.toInt64 y.toInt64 u.toInt64 (ax_rs 665 644 0 ((gn (tg 6)) - 0) (ax_N1t 639 (tg 6) 644 (gn (tg 6)) (gc (tg 6)) S (gw_im S 665 666 (mp 6) (gn (fr 6)) (gn (tg 6)) (ax_st 666 (gn (fr 6)) x.toInt64 y.toInt64 u.toInt64 M0))))))).2))) 665 2) (ax_rs 665 644 0 ((gn (tg 5)) - 0) (ax_N1t 639 (tg 5) 644 (gn (tg 5)) (gc (tg 5)) S (gw_im S 665 655 (mp 5) (gn (fr 5)) (gn (tg 5)) (ax_cb 639 (gn (fr 1)) (gn (tg 1)) (ax_M1t 639 (mp 1) (tg 1) (gn (fr 1)) (gn (tg 1)) (gc (tg 1)) S (ax_st 655 (gn (fr 6)) x.toInt64 y.toInt64 u.toInt64 (ax_rs 665 644 0 ((gn (tg 6)) - 0) (ax_N1t 639 (tg 6) 644 (gn (tg 6)) (gc (tg 6)) S (gw_im S 665 666 (mp 6) (gn (fr 6)) (gn (tg 6)) (ax_st 666 (gn (fr 6)) x.toInt64 y.toInt64 u.toInt64 M0))))))).2)))))).2)) 655 k) ∧ (∀ q, q ≠ 643 → q ≠ 644 → q ≠ 645 → q ≠ 646 → q ≠ 647 → q ≠ 648 → q ≠ 649 → q ≠ 650 → q ≠ 655 → q ≠ 665 → q ≠ 666 → (ax_rs 665 644 0 ((gn (tg 6)) - 0) (ax_N1t 639 (tg 6) 644 (gn (tg 6)) (gc (tg 6)) S (gw_im S 665 666 (mp 6) (gn (fr 6)) (gn (tg 6)) (ax_st 666 (gn (fr 6)) x.toInt64 y.toInt64 u.toInt64 M0)))) q = M0 q) ∧ ∀ q, q ≠ 643 → q ≠ 644 → q ≠ 645 → q ≠ 646 → q ≠ 647 → q ≠ 648 → q ≠ 649 → q ≠ 650 → q ≠ 655 → q ≠ 665 → q ≠ 666 → (ax_rs 655 646 0 ((gn (tg 4)) - 0) (ax_M1t 639 (mp 4) (tg 4) (gn (fr 4)) (gn (tg 4)) (gc (tg 4)) S (ax_cb 639 (gn (fr 2)) (gn (tg 2)) (ax_M1t 639 (mp 2) (tg 2) (gn (fr 2)) (gn (tg 2)) (gc (tg 2)) S (ax_st 655 3 ((ax_rs 665 644 0 ((gn (tg 5)) - 0) (ax_N1t 639 (tg 5) 644 (gn (tg 5)) (gc (tg 5)) S (gw_im S 665 655 (mp 5) (gn (fr 5)) (gn (tg 5)) (ax_cb 639 (gn (fr 1)) (gn (tg 1)) (ax_M1t 639 (mp 1) (tg 1) (gn (fr 1)) (gn (tg 1)) (gc (tg 1)) S (ax_st 655 (gn (fr 6)) x.toInt64 y.toInt64 u.toInt64 (ax_rs 665 644 0 ((gn (tg 6)) - 0) (ax_N1t 639 (tg 6) 644 (gn (tg 6)) (gc (tg 6)) S (gw_im S 665 666 (mp 6) (gn (fr 6)) (gn (tg 6)) (ax_st 666 (gn (fr 6)) x.toInt64 y.toInt64 u.toInt64 M0))))))).2))) 665 0) ((ax_rs 665 644 0 ((gn (tg 5)) - 0) (ax_N1t 639 (tg 5) 644 (gn (tg 5)) (gc (tg 5)) S (gw_im S 665 655 (mp 5) (gn (fr 5)) (gn (tg 5)) (ax_cb 639 (gn (fr 1)) (gn (tg 1)) (ax_M1t 639 (mp 1) (tg 1) (gn (fr 1)) (gn (tg 1)) (gc (tg 1)) S (ax_st 655 (gn (fr 6)) x.toInt64 y.toInt64 u.toInt64 (ax_rs 665 644 0 ((gn (tg 6)) - 0) (ax_N1t 639 (tg 6) 644 (gn (tg 6)) (gc (tg 6)) S (gw_im S 665 666 (mp 6) (gn (fr 6)) (gn (tg 6)) (ax_st 666 (gn (fr 6)) x.toInt64 y.toInt64 u.toInt64 M0))))))).2))) 665 1) ((ax_rs 665 644 0 ((gn (tg 5)) - 0) (ax_N1t 639 (tg 5) 644 (gn (tg 5)) (gc (tg 5)) S (gw_im S 665 655 (mp 5) (gn (fr 5)) (gn (tg 5)) (ax_cb 639 (gn (fr 1)) (gn (tg 1)) (ax_M1t 639 (mp 1) (tg 1) (gn (fr 1)) (gn (tg 1)) (gc (tg 1)) S (ax_st 655 (gn (fr 6)) x.toInt64 y.toInt64 u.toInt64 (ax_rs 665 644 0 ((gn (tg 6)) - 0) (ax_N1t 639 (tg 6) 644 (gn (tg 6)) (gc (tg 6)) S (gw_im S 665 666 (mp 6) (gn (fr 6)) (gn (tg 6)) (ax_st 666 (gn (fr 6)) x.toInt64 y.toInt64 u.toInt64 M0))))))).2))) 665 2) (ax_rs 665 644 0 ((gn (tg 5)) - 0) (ax_N1t 639 (tg 5) 644 (gn (tg 5)) (gc (tg 5)) S (gw_im S 665 655 (mp 5) (gn (fr 5)) (gn (tg 5)) (ax_cb 639 (gn (fr 1)) (gn (tg 1)) (ax_M1t 639 (mp 1) (tg 1) (gn (fr 1)) (gn (tg 1)) (gc (tg 1)) S (ax_st 655 (gn (fr 6)) x.toInt64 y.toInt64 u.toInt64 (ax_rs 665 644 0 ((gn (tg 6)) - 0) (ax_N1t 639 (tg 6) 644 (gn (tg 6)) (gc (tg 6)) S (gw_im S 665 666 (mp 6) (gn (fr 6)) (gn (tg 6)) (ax_st 666 (gn (fr 6)) x.toInt64 y.toInt64 u.toInt64 M0))))))).2)))))).2)) q = M0 q := by
  obtain ⟨e1, e2, e3, e4, e5, e6, e7, e8⟩ := id hE
  have hW := hSt.2.1
  have hWm := hSt.2.2.1
  obtain ⟨H1, -, -⟩ := hT 1 (by omega)
  obtain ⟨H2, -, -⟩ := hT 2 (by omega)
  obtain ⟨H4, -, -⟩ := hT 4 (by omega)
  obtain ⟨H5, -, -⟩ := hT 5 (by omega)
  obtain ⟨H6, -, -⟩ := hT 6 (by omega)
  have g6 := (hsn _ H6.2.2.1).2
  rw [gz_cnv, gz_cnL, gz_cnI]
  -- the last map takes c to nothing?
  have a1 : ∀ z, z < 6 → (ax_st 666 (gn (fr 6)) x.toInt64 y.toInt64 u.toInt64 M0) 666 z = Int64.ofInt (c z) := hst 666 M0
  have a1f : ∀ q, q ≠ 666 → (ax_st 666 (gn (fr 6)) x.toInt64 y.toInt64 u.toInt64 M0) q = M0 q := fun q hq => rl_st_ne hq
  generalize (ax_st 666 (gn (fr 6)) x.toInt64 y.toInt64 u.toInt64 M0) = N1 at *
  obtain ⟨b1, b2⟩ := gz_two (a := 621) (d := 665) (s := 666) (e := 6) (L := L) (M := N1) hW hT hsn hsc (by omega) (by omega) (fun z hz => by rw [hL z hz, a1 z (by omega)]) a1 (fun z hz => hc0 z (by rw [e7]; exact hz))
  have b1f : ∀ q, q ≠ 479 → ax_apt I 7 (9 * (mp 6)) 621 479 L 3 q = L q := fun q hq => gw_apt_ne (by omega) hq
  have b2f : ∀ q, q ≠ 665 → gw_im S 665 666 (mp 6) (gn (fr 6)) (gn (tg 6)) N1 q = N1 q := fun q hq => gw_im_ne hq
  generalize ax_apt I 7 (9 * (mp 6)) 621 479 L 3 = A1 at *
  generalize gw_im S 665 666 (mp 6) (gn (fr 6)) (gn (tg 6)) N1 = N2 at *
  obtain ⟨c1, -, c3⟩ := rl_nth (x := 373) hSt hsn hsc H6.2.2.1 (by omega) A1
  obtain ⟨-, t2⟩ := rl_N1t (t := 644) hW hsn hsc H6.2.2.1 (by omega) (by omega)
  obtain ⟨d1, d2, d3⟩ := t2 N2
  generalize ax_nth I 1 373 (tg 6) (gn (tg 6)) (gc (tg 6)) A1 = A2 at *
  generalize ax_N1t 639 (tg 6) 644 (gn (tg 6)) (gc (tg 6)) S N2 = N3 at *
  have n665 : ∀ z, z < 6 → N3 665 z = Int64.ofInt (gz_j (gn (fr 6)) (gn (tg 6)) (mx_t S (mp 6)) c z) := fun z hz => by rw [d2 665 (by omega) (by omega) (by omega)]; exact b2 z hz
  obtain ⟨f1, f2, f3, -⟩ := mt_alike (a := 373) (q := 479) (r := 665) (t := 644) (w := gn (tg 6)) (L1 := A2) (L2 := N3) (by omega) (by omega) (by omega) c1 d1 d3 0 (gn (tg 6)) (by omega) (fun z hz => by rw [c3 479 (by omega), d2 665 (by omega) (by omega) (by omega)]; exact b1 z (by omega))
  have f5 : ∀ z, gn (tg 6) ≤ z → z < 6 → ax_rs 665 644 0 (gn (tg 6)) N3 665 z = 0 := fun z h3 h4 => by
    rw [mt_rs0 (w := gn (tg 6)) (by omega) d1 d3 (by omega) h4 (fun k' _ => mx_Nz hW hsn hsc H6.2.2.1 k' z (Or.inr h3)) (gn (tg 6)) (by omega), n665 z h4]
    unfold gz_j; rw [if_neg (by omega)]; rfl
  have es : (ax_rs 665 644 0 ((gn (tg 6)) - 0) N3) = ax_rs 665 644 0 (gn (tg 6)) N3 := rfl
  rw [es]
  have red := fun hz => gz_red (r := 665) (t := 644) (L := N3) (v := gz_j (gn (fr 6)) (gn (tg 6)) (mx_t S (mp 6)) c) hW hsn hsc H6.2.2.1 (by omega) d1 n665 (fun z => Nat.le_trans (gz_j.b (M := 999) (hsn _ H6.2.1).2 (mx_t.b hWm H6) (fun z _ => hc9 z) z) (by decide)) (fun z hz => if_neg (by omega)) hz
  have Lf1 : ∀ q, (q < 366 ∨ (480 < q)) → ax_rfo 373 479 (gn (tg 6)) 0 (gn (tg 6)) A2 q = L q := fun q hq => by rw [f2 q (by omega), c3 q (by omega)]; exact b1f q (by omega)
  have Mf3 : ∀ q, q ≠ 643 → q ≠ 644 → q ≠ 645 → q ≠ 646 → q ≠ 647 → q ≠ 648 → q ≠ 649 → q ≠ 650 → q ≠ 655 → q ≠ 665 → q ≠ 666 → ax_rs 665 644 0 (gn (tg 6)) N3 q = M0 q := fun q q1 q2 q3 q4 q5 q6 q7 q8 q9 qa qb => by rw [f3 q qa, d2 q q1 q2 q7, b2f q qa]; exact a1f q qb
  generalize hP : ax_rfo 373 479 (gn (tg 6)) 0 (gn (tg 6)) A2 = P1 at *
  generalize hQ : ax_rs 665 644 0 (gn (tg 6)) N3 = Q1 at *
  have key : ax_sz (P1 479) (gn (tg 6)) = ax_all0 Q1 665 0 6 := by
    rw [Bool.eq_iff_iff, gw_all0]
    unfold ax_sz
    rw [decide_eq_true_eq]
    refine ⟨fun h z h8 => ?_, fun h z h8 => (f1 z h8).trans (h z (by omega))⟩
    by_cases c : z < gn (tg 6)
    · exact (f1 z c).symm.trans (h z c)
    · exact f5 z (by omega) h8
  rw [key]
  have jI1 : ∀ q, q ≠ 373 → (ax_u I 373 2 (nI (gn (tg 6)))) q = I q := fun q hq => ax_u_ne hq
  have St1 : rl_St 1 (ax_u I 373 2 (nI (gn (tg 6)))) S := hSt.far (fun q hq => jI1 q (by omega))
  have T1 : gw_M (ax_u I 373 2 (nI (gn (tg 6)))) S mp fr tg gn := hT.far (jI1 7 (by omega))
  generalize (ax_u I 373 2 (nI (gn (tg 6)))) = J1 at *
  -- the first way back
  obtain ⟨⟨g1, g2, g3⟩, -, g6', g7⟩ := mx_go (aa := 363) (by omega) (L := P1) St1 hsn hsc (T1 1 (by omega)).1 (T1 1 (by omega)).2.1
  generalize (ax_woL (ax_ldI J1 363 (gn (fr 1)) (gn (tg 1))) (ax_ldL J1 P1 363 1 (mp 1) (fr 1) (tg 1) (gn (fr 1)) (gc (fr 1)) (gn (tg 1)) (gc (tg 1))) 363 1 (mp 1) (gn (fr 1)) (gn (tg 1))) = P2 at *
  generalize (ax_woI (ax_ldI J1 363 (gn (fr 1)) (gn (tg 1))) 363 (gn (fr 1)) (gn (tg 1))) = J2 at *
  have a4 : ∀ z, z < 6 → ax_st 655 (gn (fr 6)) x.toInt64 y.toInt64 u.toInt64 Q1 655 z = Int64.ofInt (c z) := hst 655 Q1
  have a4f : ∀ q, q ≠ 655 → ax_st 655 (gn (fr 6)) x.toInt64 y.toInt64 u.toInt64 Q1 q = Q1 q := fun q hq => rl_st_ne hq
  generalize ax_st 655 (gn (fr 6)) x.toInt64 y.toInt64 u.toInt64 Q1 = Q2 at *
  obtain ⟨-, k1⟩ := rl_M1t hW hWm hsn hsc H1
  obtain ⟨⟨m1, m2, m3⟩, m4⟩ := k1 Q2
  generalize ax_M1t 639 (mp 1) (tg 1) (gn (fr 1)) (gn (tg 1)) (gc (tg 1)) S Q2 = Q3 at *
  obtain ⟨⟨hH1, s11, s12⟩, hl1, -⟩ := mx_Hf hW hWm hsn hsc H1
  have hm1 := (hsn _ H1.2.2.1).2
  have hn1 := (hsn _ H1.2.1).2
  have P621 : ∀ z, z < 3 → P2 621 z = Int64.ofInt (c z) := fun z hz => by rw [g6' 621 (by omega), Lf1 621 (by omega)]; exact hL z hz
  have Q655 : ∀ z, z < 6 → Q3 655 z = Int64.ofInt (c z) := fun z hz => by rw [m4 655 (by omega) (by omega) (by omega) (by omega) (by omega) (by omega)]; exact a4 z hz
  obtain ⟨okA, okB⟩ := mx_okA (ρ := 999) (s := c) hm1 hn1 hH1 hl1 (by decide) (fun z hz _ => by rw [one z hz]; exact Nat.le_trans (hc9 z) (by decide))
  obtain ⟨x1, x2, x3, x4⟩ := mx_gb (a := 363) (q := 621) (m := gn (tg 1)) (n := gn (fr 1)) (L := P2) (Y := Q3) (s := c) hm1 hn1 hH1 hl1 okA okB (by omega) g1 g3 m1 m3 (fun z hz => P621 z (by omega)) (fun z hz => Q655 z (by omega))
  have y1 : ax_gbv P2 363 621 (gn (fr 1)) (gn (tg 1)) = true := by
    rw [x1]
    refine gz_back (s := c) hm1 hn1 hH1 hl1 (fun k hk hne => okA k (by omega) hne) m1 (fun z hz => Q655 z (by omega)) (fun z hz => ?_)
    have := mt_rf.in (v := mx_v (gn (tg 1)) c) hH1.1 hH1.2.1 (gn (tg 1)) (by omega) z (Nat.zero_le _) (by omega) (by rw [one z hz]; decide)
    rw [one z hz] at this
    omega
  obtain ⟨R, R0, R1, R2, R3⟩ := x4 y1
  have hcR := R2 (fun z hz => by rw [one z hz]; decide)
  have Rb : ∀ z, (R z).natAbs ≤ 230369832 := fun z => by
    by_cases hz : z < gn (fr 1)
    · by_cases ne : mx_H S gn gc (mp 1) (fr 1) (tg 1) (gn (tg 1) + z) (gn (tg 1) + z) = 0
      · rcases (gy_own hW hsn hsc H1.2.2.1).1 with h | h
        · have hB := (mx_own hW hsn hsc H1.2.2.1).2.1.1
          exact absurd ne (gy_full (fun k j hk hj => hB.1 k j hk hj) (fun k j hk hj => hB.2.2.2.2 k j hk hj) h hH1.ec s12 (gn (tg 1) + z) (by omega))
        · have := gy_R h hn1 (mx_t.b hWm H1) hH1 s11 s12 hcR (fun w hw => by (try dsimp only); rw [if_pos hw]; exact hc9 w) (fun w h5 h6 h7 => by
            try dsimp only
            rw [if_neg (by omega), if_pos h6]
            have := R1 (w - gn (tg 1)) (by omega)
            rw [show gn (tg 1) + (w - gn (tg 1)) = w by omega] at this
            exact this h7) (e := gn (tg 1) + z) (by omega) (by omega) ne
          rw [if_neg (by omega), if_pos (by omega), show gn (tg 1) + z - gn (tg 1) = z by omega] at this
          exact this
      · have := R1 z hz ne
        have := hl1 (gn (tg 1) + z) (by omega)
        omega
    · rw [R0 z (by omega)]; exact Nat.zero_le _
  rw [y1, if_pos rfl, if_pos rfl, if_pos rfl]
  have P3f : ∀ q, (q < 366 ∨ (480 < q ∧ q ≠ 621)) → ax_gbL P2 363 621 (gn (fr 1)) (gn (tg 1)) q = L q := fun q hq => by rw [x2 q (by omega) (by omega), g6' q (by omega)]; exact Lf1 q (by omega)
  have P3r : ∀ z, z < 6 → ax_gbL P2 363 621 (gn (fr 1)) (gn (tg 1)) 621 z = Int64.ofInt (R z) := fun z hz => (R3 z hz).1
  have Q4r : ∀ z, z < 6 → (ax_cb 639 (gn (fr 1)) (gn (tg 1)) Q3).2 655 z = Int64.ofInt (R z) := fun z hz => (R3 z hz).2
  have Q4f : ∀ q, q ≠ 643 → q ≠ 644 → q ≠ 645 → q ≠ 646 → q ≠ 647 → q ≠ 648 → q ≠ 649 → q ≠ 650 → q ≠ 655 → q ≠ 665 → q ≠ 666 → (ax_cb 639 (gn (fr 1)) (gn (tg 1)) Q3).2 q = M0 q := fun q q1 q2 q3 q4 q5 q6 q7 q8 q9 qa qb => by rw [x3 q q8 q9, m4 q q1 q3 q4 q5 q6 q7, a4f q q9]; exact Mf3 q q1 q2 q3 q4 q5 q6 q7 q8 q9 qa qb
  generalize ax_gbL P2 363 621 (gn (fr 1)) (gn (tg 1)) = P3 at *
  generalize (ax_cb 639 (gn (fr 1)) (gn (tg 1)) Q3).2 = Q4 at *
  have jI2 : ∀ q, (q < 364 ∨ 400 < q) → J2 q = I q := fun q hq => by rw [g7 q (by omega)]; exact jI1 q (by omega)
  have St2 : rl_St 1 J2 S := hSt.far (fun q hq => jI2 q (by omega))
  have T2 : gw_M J2 S mp fr tg gn := hT.far (jI2 7 (by omega))
  clear R3 x1 x2 x3 x4 okA okB m1 m2 m3 m4 g1 g2 g3 P621 Q655 a4 a4f
  -- its image
  have e51 : gn (fr 5) = gn (fr 1) := by rw [← e2, e1]
  obtain ⟨b1, b2⟩ := gz_two (I := J2) (a := 621) (d := 665) (s := 655) (e := 5) (L := P3) (M := Q4) hW T2 hsn hsc (by omega) (by omega) (fun z hz => by rw [P3r z (by omega), Q4r z (by omega)]) Q4r (fun z hz => R0 z (by omega))
  have yb : ∀ j, (gz_j (gn (fr 5)) (gn (tg 5)) (mx_t S (mp 5)) R j).natAbs ≤ 68419840104 := fun j => Nat.le_trans (gz_j.b (M := 230369832) (hsn _ H5.2.1).2 (mx_t.b hWm H5) (fun z _ => Rb z) j) (by decide)
  have mid := gz_mid (Ir := fun _ _ => 0) (Lr := fun _ _ => 0) (Lx := fun _ _ => 0) (c := c) (R := R) hW hWm hT hsn hsc hE wl6 ex wa R0 hcR hc0
  have b1f : ∀ q, q ≠ 479 → ax_apt J2 7 (9 * (mp 5)) 621 479 P3 3 q = P3 q := fun q hq => gw_apt_ne (by omega) hq
  have b2f : ∀ q, q ≠ 665 → gw_im S 665 655 (mp 5) (gn (fr 5)) (gn (tg 5)) Q4 q = Q4 q := fun q hq => gw_im_ne hq
  generalize ax_apt J2 7 (9 * (mp 5)) 621 479 P3 3 = P4 at *
  generalize gw_im S 665 655 (mp 5) (gn (fr 5)) (gn (tg 5)) Q4 = Q5 at *
  have Rz : ∀ z, 3 ≤ z → R z = 0 := fun z hz => R0 z (by omega)
  have yz : ∀ z, gn (tg 5) ≤ z → gz_j (gn (fr 5)) (gn (tg 5)) (mx_t S (mp 5)) R z = 0 := fun z hz => if_neg (by omega)
  generalize gz_j (gn (fr 5)) (gn (tg 5)) (mx_t S (mp 5)) R = y at *
  have g5 := (hsn _ H5.2.2.1).2
  have P5r : ∀ z, z < 6 → ax_cp P4 479 621 0 0 3 621 z = Int64.ofInt (y z) := fun z hz => by
    rw [ax_cp_eq]
    unfold va_cpy
    by_cases c3 : z < 3
    · rw [if_pos (by omega), show 0 + (z - 0) = z by omega, b1 z c3]; exact b2 z hz
    · rw [if_neg (by omega), b1f 621 (by omega), P3r z hz, Rz z (by omega), yz z (by omega)]
  have P5f : ∀ q, (q < 366 ∨ (480 < q ∧ q ≠ 621)) → ax_cp P4 479 621 0 0 3 q = L q := fun q hq => by rw [ax_cp_ne (by omega), b1f q (by omega)]; exact P3f q (by omega)
  generalize ax_cp P4 479 621 0 0 3 = P5 at *
  obtain ⟨⟨g1, g2, g3⟩, ⟨-, g5'⟩, g6'', g7'⟩ := mx_go (aa := 363) (by omega) (L := P5) St2 hsn hsc (T2 2 (by omega)).1 (T2 2 (by omega)).2.1
  generalize (ax_woL (ax_ldI J2 363 (gn (fr 2)) (gn (tg 2))) (ax_ldL J2 P5 363 1 (mp 2) (fr 2) (tg 2) (gn (fr 2)) (gc (fr 2)) (gn (tg 2)) (gc (tg 2))) 363 1 (mp 2) (gn (fr 2)) (gn (tg 2))) = P6 at *
  generalize (ax_woI (ax_ldI J2 363 (gn (fr 2)) (gn (tg 2))) 363 (gn (fr 2)) (gn (tg 2))) = J3 at *
  -- reduced
  have e25 : tg 5 = tg 2 := e4.symm
  obtain ⟨-, t2⟩ := rl_N1t (t := 644) hW hsn hsc H5.2.2.1 (by omega) (by omega)
  obtain ⟨d1, d2, d3⟩ := t2 Q5
  generalize ax_N1t 639 (tg 5) 644 (gn (tg 5)) (gc (tg 5)) S Q5 = Q6 at *
  rw [e25] at d1 d3 yz g5
  rw [e25]
  have q665 : ∀ z, z < 6 → Q6 665 z = Int64.ofInt (y z) := fun z hz => by rw [d2 665 (by omega) (by omega) (by omega)]; exact b2 z hz
  have p621 : ∀ z, z < 6 → P6 621 z = Int64.ofInt (y z) := fun z hz => by rw [g6'' 621 (by omega)]; exact P5r z hz
  obtain ⟨f1, f2, f3, -⟩ := mt_alike (a := 373) (q := 621) (r := 665) (t := 644) (w := gn (tg 2)) (L1 := P6) (L2 := Q6) (by omega) (by omega) (by omega) g5' d1 d3 0 (gn (tg 2)) (by omega) (fun z hz => by rw [q665 z (by omega), p621 z (by omega)])
  have hB := (mx_own hW hsn hsc H2.2.2.1).2.1.1
  have ld := (gy_own hW hsn hsc H2.2.2.1).2
  have sx := mt_rsf (r := 665) (t := 644) (f := 0) (w := gn (tg 2)) (L := Q6) (B := mt_N S gn gc (tg 2)) (v := y) (by omega) d1 d3 (by omega) (fun k j hk hj => hB.1 k j hk hj) q665 (gn (tg 2)) (by omega) (fun k hk hne => by
    rw [Nat.zero_add] at hne ⊢
    have h1 := mt_rfq (w := gn (tg 2)) (f := 0) (ρ := 68419840104) (B := mt_N S gn gc (tg 2)) (v := y) hB.2.1 (fun k q _ h1 h2 h3 => hB.2.2.2.1 k q h1 h2 h3) (fun q _ h1 h2 => by
      have h3 := yb q
      have h4 : 68419840104 * 1 ≤ 68419840104 * (mt_N S gn gc (tg 2) q q).natAbs := Nat.mul_le_mul_left _ (by omega)
      omega) k (by omega) k (by omega) hk hne
    have h5 : gd_c 68419840104 k ≤ gd_c 68419840104 2 := gd_c.up _ (by omega)
    have h6 : gd_c 68419840104 2 = 3 * 68419840104 := by decide
    have h7 : (68419840104 + gd_c 68419840104 k) * (mt_N S gn gc (tg 2) k k).natAbs ≤ (4 * 68419840104) * 4374 := Nat.mul_le_mul (by omega) (ld k hk)
    unfold mt_ok; omega)
  obtain ⟨nb, nok⟩ := gz_num (y := y) hW hWm hsn hsc H2 yb
  have e9 : (ax_rfo 373 621 (gn (tg 2)) 0 ((gn (tg 2)) - 0) P6) = ax_rfo 373 621 (gn (tg 2)) 0 (gn (tg 2)) P6 := rfl
  have e8' : (ax_rs 665 644 0 ((gn (tg 2)) - 0) Q6) = ax_rs 665 644 0 (gn (tg 2)) Q6 := rfl
  rw [e9, e8']
  have Q7f : ∀ q, q ≠ 643 → q ≠ 644 → q ≠ 645 → q ≠ 646 → q ≠ 647 → q ≠ 648 → q ≠ 649 → q ≠ 650 → q ≠ 655 → q ≠ 665 → q ≠ 666 → ax_rs 665 644 0 (gn (tg 2)) Q6 q = M0 q := fun q q1 q2 q3 q4 q5 q6 q7 q8 q9 qa qb => by rw [f3 q qa, d2 q q1 q2 q7, b2f q qa]; exact Q4f q q1 q2 q3 q4 q5 q6 q7 q8 q9 qa qb
  generalize ax_rfo 373 621 (gn (tg 2)) 0 (gn (tg 2)) P6 = P7 at *
  generalize ax_rs 665 644 0 (gn (tg 2)) Q6 = Q7 at *
  have a9 : ∀ z, z < 3 → ax_st 655 3 (Q7 665 0) (Q7 665 1) (Q7 665 2) Q7 655 z = Q7 665 z := fun z hz => by
    rw [rl_st hz, if_pos hz]
    rcases (show z = 0 ∨ z = 1 ∨ z = 2 by omega) with rfl | rfl | rfl <;> rfl
  have a9f : ∀ q, q ≠ 655 → ax_st 655 3 (Q7 665 0) (Q7 665 1) (Q7 665 2) Q7 q = Q7 q := fun q hq => rl_st_ne hq
  generalize ax_st 655 3 (Q7 665 0) (Q7 665 1) (Q7 665 2) Q7 = Q8 at *
  obtain ⟨-, k1⟩ := rl_M1t hW hWm hsn hsc H2
  obtain ⟨⟨m1, m2, m3⟩, m4⟩ := k1 Q8
  generalize ax_M1t 639 (mp 2) (tg 2) (gn (fr 2)) (gn (tg 2)) (gc (tg 2)) S Q8 = Q9 at *
  obtain ⟨⟨hH2, s21, s22⟩, hl2, -⟩ := mx_Hf hW hWm hsn hsc H2
  have hm2 := (hsn _ H2.2.2.1).2
  have hn2 := (hsn _ H2.2.1).2
  have Q9r : ∀ z, z < gn (tg 2) → Q9 655 z = Int64.ofInt (mt_rf (mt_N S gn gc (tg 2)) 0 (gn (tg 2)) y z) := fun z hz => by rw [m4 655 (by omega) (by omega) (by omega) (by omega) (by omega) (by omega), a9 z (by omega)]; exact sx z (by omega)
  have P7r : ∀ z, z < gn (tg 2) → P7 621 z = Int64.ofInt (mt_rf (mt_N S gn gc (tg 2)) 0 (gn (tg 2)) y z) := fun z hz => (f1 z hz).trans (sx z (by omega))
  obtain ⟨x1, x2, x3, x4⟩ := gy_gb (a := 363) (q := 621) (m := gn (tg 2)) (n := gn (fr 2)) (L := P7) (Y := Q9) (s := mt_rf (mt_N S gn gc (tg 2)) 0 (gn (tg 2)) y) hm2 hn2 hH2 hl2 h43 (fun z hz _ => nb z hz) (by omega) (fun k j hk hj => by rw [f2 _ (by omega)]; exact g1 k j hk hj) (fun k j hk hj => by rw [f2 _ (by omega)]; exact g3 k j hk hj) m1 m3 P7r Q9r
  have P8f : ∀ q, (q < 366 ∨ (480 < q ∧ q ≠ 621)) → ax_gbL P7 363 621 (gn (fr 2)) (gn (tg 2)) q = L q := fun q hq => by rw [x2 q (by omega) (by omega), f2 q (by omega), g6'' q (by omega)]; exact P5f q (by omega)
  have Qaf : ∀ q, q ≠ 643 → q ≠ 644 → q ≠ 645 → q ≠ 646 → q ≠ 647 → q ≠ 648 → q ≠ 649 → q ≠ 650 → q ≠ 655 → q ≠ 665 → q ≠ 666 → (ax_cb 639 (gn (fr 2)) (gn (tg 2)) Q9).2 q = M0 q := fun q q1 q2 q3 q4 q5 q6 q7 q8 q9 qa qb => by rw [x3 q q8 q9, m4 q q1 q3 q4 q5 q6 q7, a9f q q9]; exact Q7f q q1 q2 q3 q4 q5 q6 q7 q8 q9 qa qb
  have back : ax_all0 Q1 665 0 6 = true → ax_gbv P7 363 621 (gn (fr 2)) (gn (tg 2)) = true := fun ht => by
    rw [x1]
    rw [gw_all0] at ht
    have h6 := red (fun z hz => ht z (by omega))
    have inR := mid h6
    have sp : mt_sp (gn (tg 2)) (gx_R (gn (tg 2)) (mx_H S gn gc (mp 2) (fr 2) (tg 2))) (mt_rf (mt_N S gn gc (tg 2)) 0 (gn (tg 2)) y) := by
      have d := mt_rf_df (w := gn (tg 2)) (f := 0) (B := mt_N S gn gc (tg 2)) (v := y) (gn (tg 2)) (by omega)
      have d2 := mt_sp.le (fun i hi => gz_RO (t := mx_t S (mp 2)) (fun k j hk hj => hH2.1 k j hk hj) (fun k j hk hj => hB.2.2.2.2 k j hk hj) s22 hi) d
      exact (d2.add inR).cg (fun j => by (try dsimp only); omega)
    refine gz_back (s := mt_rf (mt_N S gn gc (tg 2)) 0 (gn (tg 2)) y) hm2 hn2 hH2 hl2 (fun k hk hne => nok k hk hne) m1 Q9r (fun z hz => ?_)
    rw [gz_rfR (n := 0) (gn (tg 2)) (Nat.le_refl _) z hz]
    exact gz_0 (gx_R.hn hH2) sp z
  have jI3 : ∀ q, (q < 364 ∨ 400 < q) → J3 q = I q := fun q hq => by rw [g7' q (by omega)]; exact jI2 q (by omega)
  have St3 : rl_St 1 J3 S := hSt.far (fun q hq => jI3 q (by omega))
  have T3 : gw_M J3 S mp fr tg gn := hT.far (jI3 7 (by omega))
  generalize ax_gbL P7 363 621 (gn (fr 2)) (gn (tg 2)) = P8 at *
  generalize (ax_cb 639 (gn (fr 2)) (gn (tg 2)) Q9).2 = Qa at *
  generalize ax_gbv P7 363 621 (gn (fr 2)) (gn (tg 2)) = bv at *
  -- the last map
  obtain ⟨⟨-, h2, -⟩, -, h6, h7⟩ := mx_go (aa := 363) (by omega) (L := P8) St3 hsn hsc (T3 4 (by omega)).1 (T3 4 (by omega)).2.1
  generalize (ax_woL (ax_ldI J3 363 (gn (fr 4)) (gn (tg 4))) (ax_ldL J3 P8 363 1 (mp 4) (fr 4) (tg 4) (gn (fr 4)) (gc (fr 4)) (gn (tg 4)) (gc (tg 4))) 363 1 (mp 4) (gn (fr 4)) (gn (tg 4))) = P9 at *
  generalize (ax_woI (ax_ldI J3 363 (gn (fr 4)) (gn (tg 4))) 363 (gn (fr 4)) (gn (tg 4))) = J4 at *
  obtain ⟨-, k4⟩ := rl_M1t hW hWm hsn hsc H4
  obtain ⟨⟨-, n2, -⟩, n4⟩ := k4 Qa
  generalize ax_M1t 639 (mp 4) (tg 4) (gn (fr 4)) (gn (tg 4)) (gc (tg 4)) S Qa = Qb at *
  obtain ⟨⟨hH4, -, -⟩, hl4, -⟩ := mx_Hf hW hWm hsn hsc H4
  have hm4 := (hsn _ H4.2.2.1).2
  have e46 : gn (tg 4) = gn (fr 2) := by rw [e6]
  obtain ⟨r1, r2, r3, -⟩ := mt_alike (a := 382) (q := 621) (r := 655) (t := 646) (w := gn (tg 4)) (B := gx_R (gn (tg 4)) (mx_H S gn gc (mp 4) (fr 4) (tg 4))) (L1 := P9) (L2 := (fun q z => if bv = true then Qb q z else if q = 655 then P9 621 z else Qb q z)) (by omega) (by omega) (by omega) h2 (fun k j hk hj => by
    try dsimp only
    have e : (if bv = true then Qb 646 (6 * k + j) else if 646 = 655 then P9 621 (6 * k + j) else Qb 646 (6 * k + j)) = Qb 646 (6 * k + j) := by
      split
      · rfl
      · rw [if_neg (by omega)]
    rw [e]; exact n2 k j hk hj) (fun k hk => by
    have e : gx_R (gn (tg 4)) (mx_H S gn gc (mp 4) (fr 4) (tg 4)) k k = mx_H S gn gc (mp 4) (fr 4) (tg 4) k k := if_pos ⟨hk, hk⟩
    rw [e]
    have := hl4 k (by omega)
    exact ⟨by unfold mt_ok; omega, hH4.2.1 k (by omega)⟩) 0 (gn (tg 4)) (by omega) (fun z hz => by
    try dsimp only
    by_cases hb : bv = true
    · rw [if_pos hb, h6 621 (by omega), n4 655 (by omega) (by omega) (by omega) (by omega) (by omega) (by omega)]
      exact x4 hb z (by omega)
    · rw [if_neg hb, if_pos rfl])
  have e13 : (ax_rfo 382 621 (gn (tg 4)) 0 ((gn (tg 4)) - 0) P9) = ax_rfo 382 621 (gn (tg 4)) 0 (gn (tg 4)) P9 := rfl
  have e14 : (ax_rs 655 646 0 ((gn (tg 4)) - 0) Qb) = ax_rs 655 646 0 (gn (tg 4)) Qb := rfl
  rw [e13, e14]
  have Lf9 : ∀ q, (q < 366 ∨ (480 < q ∧ q ≠ 621)) → ax_rfo 382 621 (gn (tg 4)) 0 (gn (tg 4)) P9 q = L q := fun q hq => by rw [r2 q (by omega), h6 q (by omega)]; exact P8f q (by omega)
  have Mfd : ∀ q, q ≠ 643 → q ≠ 644 → q ≠ 645 → q ≠ 646 → q ≠ 647 → q ≠ 648 → q ≠ 649 → q ≠ 650 → q ≠ 655 → q ≠ 665 → q ≠ 666 → ax_rs 655 646 0 (gn (tg 4)) Qb q = M0 q := fun q q1 q2 q3 q4 q5 q6 q7 q8 q9 qa qb => by rw [mt_rsne (gn (tg 4)) q q9, n4 q q1 q3 q4 q5 q6 q7]; exact Qaf q q1 q2 q3 q4 q5 q6 q7 q8 q9 qa qb
  have jI4 : ∀ q, (q < 364 ∨ 400 < q) → J4 q = I q := fun q hq => by rw [h7 q (by omega)]; exact jI3 q (by omega)
  refine ⟨?_, fun q hq => ?_, fun q hq => ?_, fun ht k hk => ?_, Mf3, Mfd⟩
  · cases ht : ax_all0 Q1 665 0 6 with
    | false => rw [if_neg (by decide)]
    | true => rw [if_pos rfl, back ht, if_pos rfl]
  · cases ht : ax_all0 Q1 665 0 6 with
    | false => rw [if_neg (by decide)]; exact Lf1 q (by omega)
    | true => rw [if_pos rfl, back ht, if_pos rfl]; exact Lf9 q hq
  · cases ht : ax_all0 Q1 665 0 6 with
    | false => rw [if_neg (by decide)]; exact jI1 q (by omega)
    | true => rw [if_pos rfl, back ht, if_pos rfl]; exact jI4 q (by omega)
  · rw [ht, if_pos rfl, back ht, if_pos rfl, r1 k (by omega)]
    have : (fun q z => if bv = true then Qb q z else if q = 655 then P9 621 z else Qb q z) = Qb := by
      funext q z; rw [if_pos (back ht)]
    rw [this]

set_option maxHeartbeats 4000000 in
set_option maxRecDepth 100000 in
/-- total -/
theorem lw_c13 {p : Program} {l : Launch} {e : Env} {s : State} {m : MethodId} {below : List Frame} {meth : Method} {c : Code} {g : wG} {t : Nat → Nat} {b L : Nat} {xs : Nat → Int32} {ad : Nat → Nat → Nat} {o : Nat → Nat} {i : Nat} (Z : LwX p s m c g t b L xs) (hi : i + 3 ≤ L) {q : CS} {r : MS} (h : Rel q r) (nx : ∀ q1 r1, Rel q1 r1 → LwG p l e s m below meth c g b ad o i 720 q1 r1) : LwG p l e s m below meth c g b ad o i 491 q r := by
  obtain ⟨X, hZ, -, -, -⟩ := id Z
  obtain ⟨⟨hx, hb, hml, hown, hts⟩, hK, hN⟩ := id X
  have hB := h.1.b
  have hlj := h.2.1.1
  have hm5 := h.2.1.2.1
  obtain ⟨cn, hc, hz⟩ := h.1.cn
  have hzm := cn_of h.1 hz
  have hln : cN q ≤ 60 := h.2.2.2.2.1
  have hy6 : mY r ≤ 60 := by rw [← h.2.2.2.1]; exact hln
  intro ls H locs hP hD hS hl
  refine lv_aload_n hx hb dL_law_491 rfl (lv_at hl 2 rfl) ?_
  refine lw_arg1 Z hi hS hl 1 0 rfl rfl dL_law_492 dL_law_493 dL_law_494 dL_law_495 dL_law_496 ?_
  refine x_goI (wn := CW g ad q ++ MW g o r) (x_rV (As := [.int (xs (i + 1))]) X (c_X5_total l g ad q (xs (i + 1)) _) yf_X5_total yi_X5_total wM_L_68 ⟨Nat.le_of_ble_eq_true rfl, Nat.le_of_ble_eq_true rfl⟩ hP hD (List.Perm.refl _) 0 rfl rfl hl rfl rfl (Nat.le_of_ble_eq_true rfl) dL_law_497 ⟨Nat.le_of_ble_eq_true rfl, Nat.le_of_ble_eq_true rfl⟩) hP hD hS LwX.A (List.Perm.refl _) List.perm_append_comm (fun H locs hP hD hS => ?_)
  refine lv_aload_n hx hb dL_law_500 rfl (lv_at hl 3 rfl) ?_
  refine lw_arg1 Z hi hS hl 1 0 rfl rfl dL_law_501 dL_law_502 dL_law_503 dL_law_504 dL_law_505 ?_
  refine x_goI (wn := CW g ad q ++ MW g o r) (x_rV (As := [.int (xs (i + 1))]) X (c_X6_total l g o r (xs (i + 1)) _) yf_X6_total yi_X6_total wM_L_71 ⟨Nat.le_of_ble_eq_true rfl, Nat.le_of_ble_eq_true rfl⟩ hP hD List.perm_append_comm 0 rfl rfl hl rfl rfl (Nat.le_of_ble_eq_true rfl) dL_law_506 ⟨Nat.le_of_ble_eq_true rfl, Nat.le_of_ble_eq_true rfl⟩) hP hD hS LwX.A List.perm_append_comm (List.Perm.refl _) (fun H locs hP hD hS => ?_)
  have hE : (kTotal q (xs (i + 1))) = (mTotal r (xs (i + 1))) := p_total h (xs (i + 1))
  refine lv_icmp_eq (tgt := 720) hx hb dL_law_509 (by decide) (fun _ => ?_) (fun c1 => absurd hE c1)
  exact nx _ _ h ls _ _ hP hD hS hl
set_option maxHeartbeats 4000000 in
set_option maxRecDepth 100000 in
/-- majority -/
theorem lw_c14 {p : Program} {l : Launch} {e : Env} {s : State} {m : MethodId} {below : List Frame} {meth : Method} {c : Code} {g : wG} {t : Nat → Nat} {b L : Nat} {xs : Nat → Int32} {ad : Nat → Nat → Nat} {o : Nat → Nat} {i : Nat} (Z : LwX p s m c g t b L xs) (hi : i + 3 ≤ L) {q : CS} {r : MS} (h : Rel q r) (nx : ∀ q1 r1, Rel q1 r1 → LwG p l e s m below meth c g b ad o i 720 q1 r1) : LwG p l e s m below meth c g b ad o i 514 q r := by
  obtain ⟨X, hZ, -, -, -⟩ := id Z
  obtain ⟨⟨hx, hb, hml, hown, hts⟩, hK, hN⟩ := id X
  have hB := h.1.b
  have hlj := h.2.1.1
  have hm5 := h.2.1.2.1
  obtain ⟨cn, hc, hz⟩ := h.1.cn
  have hzm := cn_of h.1 hz
  have hln : cN q ≤ 60 := h.2.2.2.2.1
  have hy6 : mY r ≤ 60 := by rw [← h.2.2.2.1]; exact hln
  intro ls H locs hP hD hS hl
  refine lv_aload_n hx hb dL_law_514 rfl (lv_at hl 2 rfl) ?_
  refine x_goI (wn := CW g ad q ++ MW g o r) (x_rV (As := []) X (c_X5_majority l g ad q _) yf_X5_majority yi_X5_majority wM_L_72 ⟨Nat.le_of_ble_eq_true rfl, Nat.le_of_ble_eq_true rfl⟩ hP hD (List.Perm.refl _) 0 rfl rfl hl rfl rfl (Nat.le_of_ble_eq_true rfl) dL_law_515 ⟨Nat.le_of_ble_eq_true rfl, Nat.le_of_ble_eq_true rfl⟩) hP hD hS LwX.A (List.Perm.refl _) List.perm_append_comm (fun H locs hP hD hS => ?_)
  refine lv_aload_n hx hb dL_law_518 rfl (lv_at hl 3 rfl) ?_
  refine x_goI (wn := CW g ad q ++ MW g o r) (x_rV (As := []) X (c_X6_majority l g o r _) yf_X6_majority yi_X6_majority wM_L_75 ⟨Nat.le_of_ble_eq_true rfl, Nat.le_of_ble_eq_true rfl⟩ hP hD List.perm_append_comm 0 rfl rfl hl rfl rfl (Nat.le_of_ble_eq_true rfl) dL_law_519 ⟨Nat.le_of_ble_eq_true rfl, Nat.le_of_ble_eq_true rfl⟩) hP hD hS LwX.A List.perm_append_comm (List.Perm.refl _) (fun H locs hP hD hS => ?_)
  have hE : (maL (cT q 0) 4 8 0 0) = (mjL (mZ r) 4 8 0 0) := p_majority h
  refine lv_icmp_eq (tgt := 720) hx hb dL_law_522 (by decide) (fun _ => ?_) (fun c1 => absurd hE c1)
  exact nx _ _ h ls _ _ hP hD hS hl
set_option maxHeartbeats 4000000 in
set_option maxRecDepth 100000 in
/-- coming -/
theorem lw_c15 {p : Program} {l : Launch} {e : Env} {s : State} {m : MethodId} {below : List Frame} {meth : Method} {c : Code} {g : wG} {t : Nat → Nat} {b L : Nat} {xs : Nat → Int32} {ad : Nat → Nat → Nat} {o : Nat → Nat} {i : Nat} (Z : LwX p s m c g t b L xs) (hi : i + 3 ≤ L) {q : CS} {r : MS} (h : Rel q r) (nx : ∀ q1 r1, Rel q1 r1 → LwG p l e s m below meth c g b ad o i 720 q1 r1) : LwG p l e s m below meth c g b ad o i 527 q r := by
  obtain ⟨X, hZ, -, -, -⟩ := id Z
  obtain ⟨⟨hx, hb, hml, hown, hts⟩, hK, hN⟩ := id X
  have hB := h.1.b
  have hlj := h.2.1.1
  have hm5 := h.2.1.2.1
  obtain ⟨cn, hc, hz⟩ := h.1.cn
  have hzm := cn_of h.1 hz
  have hln : cN q ≤ 60 := h.2.2.2.2.1
  have hy6 : mY r ≤ 60 := by rw [← h.2.2.2.1]; exact hln
  obtain ⟨nf, hnf⟩ : ∃ n : Nat, 1 + n = 1441 := ⟨1440, rfl⟩
  intro ls H locs hP hD hS hl
  refine lv_aload_n hx hb dL_law_527 rfl (lv_at hl 2 rfl) ?_
  refine lw_arg1 Z hi hS hl 1 0 rfl rfl dL_law_528 dL_law_529 dL_law_530 dL_law_531 dL_law_532 ?_
  refine lw_arg2 Z hi hS hl 1 0 rfl rfl dL_law_533 dL_law_534 dL_law_535 dL_law_536 dL_law_537 ?_
  refine x_goI (wn := CW g ad q ++ MW g o r) (x_rV (As := [.int (xs (i + 1)), .int (xs (i + 2))]) X (c_X5_coming l g ad q (xs (i + 1)) (xs (i + 2)) _) yf_X5_coming yi_X5_coming wM_L_76 ⟨Nat.le_of_ble_eq_true rfl, Nat.le_of_ble_eq_true rfl⟩ hP hD (List.Perm.refl _) 0 rfl rfl hl rfl rfl (Nat.le_of_ble_eq_true rfl) dL_law_538 ⟨Nat.le_of_ble_eq_true rfl, Nat.le_of_ble_eq_true rfl⟩) hP hD hS LwX.A (List.Perm.refl _) List.perm_append_comm (fun H locs hP hD hS => ?_)
  refine lv_aload_n hx hb dL_law_541 rfl (lv_at hl 3 rfl) ?_
  refine lw_arg1 Z hi hS hl 1 0 rfl rfl dL_law_542 dL_law_543 dL_law_544 dL_law_545 dL_law_546 ?_
  refine lw_arg2 Z hi hS hl 1 0 rfl rfl dL_law_547 dL_law_548 dL_law_549 dL_law_550 dL_law_551 ?_
  refine x_goI (wn := CW g ad q ++ MW g o r) (x_rV (As := [.int (xs (i + 1)), .int (xs (i + 2))]) X (c_X6_coming l g o r (xs (i + 1)) (xs (i + 2)) nf hnf _) yf_X6_coming yi_X6_coming wM_L_79 ⟨Nat.le_of_ble_eq_true rfl, Nat.le_of_ble_eq_true rfl⟩ hP hD List.perm_append_comm 0 rfl rfl hl rfl rfl (Nat.le_of_ble_eq_true rfl) dL_law_552 ⟨Nat.le_of_ble_eq_true rfl, Nat.le_of_ble_eq_true rfl⟩) hP hD hS LwX.A List.perm_append_comm (List.Perm.refl _) (fun H locs hP hD hS => ?_)
  have hE : (kComing q (xs (i + 1)) (xs (i + 2))) = (mComing r (xs (i + 1)) (xs (i + 2)) nf) := p_coming h (xs (i + 1)) (xs (i + 2)) nf hnf
  refine lv_icmp_eq (tgt := 720) hx hb dL_law_555 (by decide) (fun _ => ?_) (fun c1 => absurd hE c1)
  exact nx _ _ h ls _ _ hP hD hS hl
set_option maxHeartbeats 4000000 in
set_option maxRecDepth 100000 in
/-- spreadIn -/
theorem lw_c16 {p : Program} {l : Launch} {e : Env} {s : State} {m : MethodId} {below : List Frame} {meth : Method} {c : Code} {g : wG} {t : Nat → Nat} {b L : Nat} {xs : Nat → Int32} {ad : Nat → Nat → Nat} {o : Nat → Nat} {i : Nat} (Z : LwX p s m c g t b L xs) (hi : i + 3 ≤ L) {q : CS} {r : MS} (h : Rel q r) (nx : ∀ q1 r1, Rel q1 r1 → LwG p l e s m below meth c g b ad o i 720 q1 r1) : LwG p l e s m below meth c g b ad o i 560 q r := by
  obtain ⟨X, hZ, -, -, -⟩ := id Z
  obtain ⟨⟨hx, hb, hml, hown, hts⟩, hK, hN⟩ := id X
  have hB := h.1.b
  have hlj := h.2.1.1
  have hm5 := h.2.1.2.1
  obtain ⟨cn, hc, hz⟩ := h.1.cn
  have hzm := cn_of h.1 hz
  have hln : cN q ≤ 60 := h.2.2.2.2.1
  have hy6 : mY r ≤ 60 := by rw [← h.2.2.2.1]; exact hln
  intro ls H locs hP hD hS hl
  refine lv_aload_n hx hb dL_law_560 rfl (lv_at hl 2 rfl) ?_
  refine lw_arg1 Z hi hS hl 1 0 rfl rfl dL_law_561 dL_law_562 dL_law_563 dL_law_564 dL_law_565 ?_
  refine x_goI (wn := CW g ad (kSpreadIn q cn (xs (i + 1))).2 ++ MW g o r) (x_rV (As := [.int (xs (i + 1))]) X (c_X5_spreadIn l g ad q (xs (i + 1)) hB cn hc hz _) yf_X5_spreadIn yi_X5_spreadIn wM_L_80 ⟨Nat.le_of_ble_eq_true rfl, Nat.le_of_ble_eq_true rfl⟩ hP hD (List.Perm.refl _) 0 rfl rfl hl rfl rfl (Nat.le_of_ble_eq_true rfl) dL_law_566 ⟨Nat.le_of_ble_eq_true rfl, Nat.le_of_ble_eq_true rfl⟩) hP hD hS LwX.A (List.Perm.refl _) List.perm_append_comm (fun H locs hP hD hS => ?_)
  refine lv_aload_n hx hb dL_law_569 rfl (lv_at hl 3 rfl) ?_
  refine lw_arg1 Z hi hS hl 1 0 rfl rfl dL_law_570 dL_law_571 dL_law_572 dL_law_573 dL_law_574 ?_
  refine x_goI (wn := CW g ad (kSpreadIn q cn (xs (i + 1))).2 ++ MW g o (mSpreadIn r cn (xs (i + 1))).2) (x_rV (As := [.int (xs (i + 1))]) X (c_X6_spreadIn l g o r hm5 cn hc hzm (xs (i + 1)) _) yf_X6_spreadIn yi_X6_spreadIn wM_L_83 ⟨Nat.le_of_ble_eq_true rfl, Nat.le_of_ble_eq_true rfl⟩ hP hD List.perm_append_comm 0 rfl rfl hl rfl rfl (Nat.le_of_ble_eq_true rfl) dL_law_575 ⟨Nat.le_of_ble_eq_true rfl, Nat.le_of_ble_eq_true rfl⟩) hP hD hS LwX.A List.perm_append_comm (List.Perm.refl _) (fun H locs hP hD hS => ?_)
  obtain ⟨hE, hR⟩ : (kSpreadIn q cn (xs (i + 1))).1 = (mSpreadIn r cn (xs (i + 1))).1 ∧ Rel (kSpreadIn q cn (xs (i + 1))).2 (mSpreadIn r cn (xs (i + 1))).2 := p_spreadIn h hz hc (xs (i + 1))
  refine lv_icmp_eq (tgt := 720) hx hb dL_law_578 (by decide) (fun _ => ?_) (fun c1 => absurd hE c1)
  exact nx _ _ hR ls _ _ hP hD hS hl
set_option maxHeartbeats 4000000 in
set_option maxRecDepth 100000 in
/-- minutesTo -/
theorem lw_c17 {p : Program} {l : Launch} {e : Env} {s : State} {m : MethodId} {below : List Frame} {meth : Method} {c : Code} {g : wG} {t : Nat → Nat} {b L : Nat} {xs : Nat → Int32} {ad : Nat → Nat → Nat} {o : Nat → Nat} {i : Nat} (Z : LwX p s m c g t b L xs) (hi : i + 3 ≤ L) {q : CS} {r : MS} (h : Rel q r) (nx : ∀ q1 r1, Rel q1 r1 → LwG p l e s m below meth c g b ad o i 720 q1 r1) : LwG p l e s m below meth c g b ad o i 583 q r := by
  obtain ⟨X, hZ, -, -, -⟩ := id Z
  obtain ⟨⟨hx, hb, hml, hown, hts⟩, hK, hN⟩ := id X
  have hB := h.1.b
  have hlj := h.2.1.1
  have hm5 := h.2.1.2.1
  obtain ⟨cn, hc, hz⟩ := h.1.cn
  have hzm := cn_of h.1 hz
  have hln : cN q ≤ 60 := h.2.2.2.2.1
  have hy6 : mY r ≤ 60 := by rw [← h.2.2.2.1]; exact hln
  obtain ⟨nf, hnf⟩ : ∃ n : Nat, 0 + n = 3000 := ⟨3000, rfl⟩
  intro ls H locs hP hD hS hl
  refine lv_aload_n hx hb dL_law_583 rfl (lv_at hl 2 rfl) ?_
  refine lw_arg1 Z hi hS hl 1 0 rfl rfl dL_law_584 dL_law_585 dL_law_586 dL_law_587 dL_law_588 ?_
  refine x_goI (wn := CW g ad (kMinutesTo q cn (xs (i + 1))).2 ++ MW g o r) (x_rV (As := [.int (xs (i + 1))]) X (c_X5_minutesTo l g ad q (xs (i + 1)) hB cn hc hz _) yf_X5_minutesTo yi_X5_minutesTo wM_L_84 ⟨Nat.le_of_ble_eq_true rfl, Nat.le_of_ble_eq_true rfl⟩ hP hD (List.Perm.refl _) 0 rfl rfl hl rfl rfl (Nat.le_of_ble_eq_true rfl) dL_law_589 ⟨Nat.le_of_ble_eq_true rfl, Nat.le_of_ble_eq_true rfl⟩) hP hD hS LwX.A (List.Perm.refl _) List.perm_append_comm (fun H locs hP hD hS => ?_)
  refine lv_aload_n hx hb dL_law_592 rfl (lv_at hl 3 rfl) ?_
  refine lw_arg1 Z hi hS hl 1 0 rfl rfl dL_law_593 dL_law_594 dL_law_595 dL_law_596 dL_law_597 ?_
  refine x_goI (wn := CW g ad (kMinutesTo q cn (xs (i + 1))).2 ++ MW g o (mMinutesTo r cn (xs (i + 1)) nf).2) (x_rV (As := [.int (xs (i + 1))]) X (c_X6_minutesTo l g o r hm5 cn hc hzm (xs (i + 1)) nf hnf _) yf_X6_minutesTo yi_X6_minutesTo wM_L_87 ⟨Nat.le_of_ble_eq_true rfl, Nat.le_of_ble_eq_true rfl⟩ hP hD List.perm_append_comm 0 rfl rfl hl rfl rfl (Nat.le_of_ble_eq_true rfl) dL_law_598 ⟨Nat.le_of_ble_eq_true rfl, Nat.le_of_ble_eq_true rfl⟩) hP hD hS LwX.A List.perm_append_comm (List.Perm.refl _) (fun H locs hP hD hS => ?_)
  obtain ⟨hE, hR⟩ : (kMinutesTo q cn (xs (i + 1))).1 = (mMinutesTo r cn (xs (i + 1)) nf).1 ∧ Rel (kMinutesTo q cn (xs (i + 1))).2 (mMinutesTo r cn (xs (i + 1)) nf).2 := p_minutesTo h hz hc (xs (i + 1)) nf hnf
  refine lv_icmp_eq (tgt := 720) hx hb dL_law_601 (by decide) (fun _ => ?_) (fun c1 => absurd hE c1)
  exact nx _ _ hR ls _ _ hP hD hS hl
set_option maxHeartbeats 4000000 in
set_option maxRecDepth 100000 in
/-- bestOil -/
theorem lw_c18 {p : Program} {l : Launch} {e : Env} {s : State} {m : MethodId} {below : List Frame} {meth : Method} {c : Code} {g : wG} {t : Nat → Nat} {b L : Nat} {xs : Nat → Int32} {ad : Nat → Nat → Nat} {o : Nat → Nat} {i : Nat} (Z : LwX p s m c g t b L xs) (hi : i + 3 ≤ L) {q : CS} {r : MS} (h : Rel q r) (nx : ∀ q1 r1, Rel q1 r1 → LwG p l e s m below meth c g b ad o i 720 q1 r1) : LwG p l e s m below meth c g b ad o i 606 q r := by
  obtain ⟨X, hZ, -, -, -⟩ := id Z
  obtain ⟨⟨hx, hb, hml, hown, hts⟩, hK, hN⟩ := id X
  have hB := h.1.b
  have hlj := h.2.1.1
  have hm5 := h.2.1.2.1
  obtain ⟨cn, hc, hz⟩ := h.1.cn
  have hzm := cn_of h.1 hz
  have hln : cN q ≤ 60 := h.2.2.2.2.1
  have hy6 : mY r ≤ 60 := by rw [← h.2.2.2.1]; exact hln
  obtain ⟨nf, hn31, hnf⟩ : ∃ n : Nat, n < 2 ^ 31 ∧ 1440 = nI n := ⟨1440, by decide, rfl⟩
  intro ls H locs hP hD hS hl
  refine lv_aload_n hx hb dL_law_606 rfl (lv_at hl 2 rfl) ?_
  refine x_goI (wn := CW g ad (kBestOiln q cn nf).2 ++ MW g o r) (x_rV (As := []) X (c_X5_bestOiln l g ad q hB cn hc hz nf hn31 hnf.symm _) yf_X5_bestOil yi_X5_bestOil wM_L_88 ⟨Nat.le_of_ble_eq_true rfl, Nat.le_of_ble_eq_true rfl⟩ hP hD (List.Perm.refl _) 0 rfl rfl hl rfl rfl (Nat.le_of_ble_eq_true rfl) dL_law_607 ⟨Nat.le_of_ble_eq_true rfl, Nat.le_of_ble_eq_true rfl⟩) hP hD hS LwX.A (List.Perm.refl _) List.perm_append_comm (fun H locs hP hD hS => ?_)
  refine lv_aload_n hx hb dL_law_610 rfl (lv_at hl 3 rfl) ?_
  refine x_goI (wn := CW g ad (kBestOiln q cn nf).2 ++ MW g o (mas r)) (x_rV (As := []) X (c_X6_bestOiln l g o r hm5 cn hc hzm nf hn31 hnf _) yf_X6_bestOil yi_X6_bestOil wM_L_91 ⟨Nat.le_of_ble_eq_true rfl, Nat.le_of_ble_eq_true rfl⟩ hP hD List.perm_append_comm 0 rfl rfl hl rfl rfl (Nat.le_of_ble_eq_true rfl) dL_law_611 ⟨Nat.le_of_ble_eq_true rfl, Nat.le_of_ble_eq_true rfl⟩) hP hD hS LwX.A List.perm_append_comm (List.Perm.refl _) (fun H locs hP hD hS => ?_)
  obtain ⟨hE, hR⟩ : (kBestOiln q cn nf).1 = (mBestOiln r cn nf) ∧ Rel (kBestOiln q cn nf).2 (mas r) := p_bestOil h hz hc hn31 hnf
  refine lv_icmp_eq (tgt := 720) hx hb dL_law_614 (by decide) (fun _ => ?_) (fun c1 => absurd hE c1)
  exact nx _ _ hR ls _ _ hP hD hS hl
set_option maxHeartbeats 4000000 in
set_option maxRecDepth 100000 in
/-- append -/
theorem lw_c19 {p : Program} {l : Launch} {e : Env} {s : State} {m : MethodId} {below : List Frame} {meth : Method} {c : Code} {g : wG} {t : Nat → Nat} {b L : Nat} {xs : Nat → Int32} {ad : Nat → Nat → Nat} {o : Nat → Nat} {i : Nat} (Z : LwX p s m c g t b L xs) (hi : i + 3 ≤ L) {q : CS} {r : MS} (h : Rel q r) (nx : ∀ q1 r1, Rel q1 r1 → LwG p l e s m below meth c g b ad o i 720 q1 r1) : LwG p l e s m below meth c g b ad o i 619 q r := by
  obtain ⟨X, hZ, -, -, -⟩ := id Z
  obtain ⟨⟨hx, hb, hml, hown, hts⟩, hK, hN⟩ := id X
  have hB := h.1.b
  have hlj := h.2.1.1
  have hm5 := h.2.1.2.1
  obtain ⟨cn, hc, hz⟩ := h.1.cn
  have hzm := cn_of h.1 hz
  have hln : cN q ≤ 60 := h.2.2.2.2.1
  have hy6 : mY r ≤ 60 := by rw [← h.2.2.2.1]; exact hln
  intro ls H locs hP hD hS hl
  refine lv_aload_n hx hb dL_law_619 rfl (lv_at hl 2 rfl) ?_
  refine lw_arg1 Z hi hS hl 1 0 rfl rfl dL_law_620 dL_law_621 dL_law_622 dL_law_623 dL_law_624 ?_
  refine x_goI (wn := CW g ad (kAppend q (xs (i + 1))).2 ++ MW g o r) (x_rV (As := [.int (xs (i + 1))]) X (c_X5_append l g ad q (xs (i + 1)) hln _) yf_X5_append yi_X5_append wM_L_92 ⟨Nat.le_of_ble_eq_true rfl, Nat.le_of_ble_eq_true rfl⟩ hP hD (List.Perm.refl _) 0 rfl rfl hl rfl rfl (Nat.le_of_ble_eq_true rfl) dL_law_625 ⟨Nat.le_of_ble_eq_true rfl, Nat.le_of_ble_eq_true rfl⟩) hP hD hS LwX.A (List.Perm.refl _) List.perm_append_comm (fun H locs hP hD hS => ?_)
  refine lv_aload_n hx hb dL_law_628 rfl (lv_at hl 3 rfl) ?_
  refine lw_arg1 Z hi hS hl 1 0 rfl rfl dL_law_629 dL_law_630 dL_law_631 dL_law_632 dL_law_633 ?_
  refine x_goI (wn := CW g ad (kAppend q (xs (i + 1))).2 ++ MW g o (mAppend r (xs (i + 1))).2) (x_rV (As := [.int (xs (i + 1))]) X (c_X6_append l g o r hy6 (xs (i + 1)) _) yf_X6_append yi_X6_append wM_L_95 ⟨Nat.le_of_ble_eq_true rfl, Nat.le_of_ble_eq_true rfl⟩ hP hD List.perm_append_comm 0 rfl rfl hl rfl rfl (Nat.le_of_ble_eq_true rfl) dL_law_634 ⟨Nat.le_of_ble_eq_true rfl, Nat.le_of_ble_eq_true rfl⟩) hP hD hS LwX.A List.perm_append_comm (List.Perm.refl _) (fun H locs hP hD hS => ?_)
  obtain ⟨hE, hR⟩ : (kAppend q (xs (i + 1))).1 = (mAppend r (xs (i + 1))).1 ∧ Rel (kAppend q (xs (i + 1))).2 (mAppend r (xs (i + 1))).2 := p_append h (xs (i + 1))
  refine lv_icmp_eq (tgt := 720) hx hb dL_law_637 (by decide) (fun _ => ?_) (fun c1 => absurd hE c1)
  exact nx _ _ hR ls _ _ hP hD hS hl
set_option maxHeartbeats 4000000 in
set_option maxRecDepth 100000 in
/-- clearText -/
theorem lw_c20 {p : Program} {l : Launch} {e : Env} {s : State} {m : MethodId} {below : List Frame} {meth : Method} {c : Code} {g : wG} {t : Nat → Nat} {b L : Nat} {xs : Nat → Int32} {ad : Nat → Nat → Nat} {o : Nat → Nat} {i : Nat} (Z : LwX p s m c g t b L xs) (hi : i + 3 ≤ L) {q : CS} {r : MS} (h : Rel q r) (nx : ∀ q1 r1, Rel q1 r1 → LwG p l e s m below meth c g b ad o i 720 q1 r1) : LwG p l e s m below meth c g b ad o i 642 q r := by
  obtain ⟨X, hZ, -, -, -⟩ := id Z
  obtain ⟨⟨hx, hb, hml, hown, hts⟩, hK, hN⟩ := id X
  have hB := h.1.b
  have hlj := h.2.1.1
  have hm5 := h.2.1.2.1
  obtain ⟨cn, hc, hz⟩ := h.1.cn
  have hzm := cn_of h.1 hz
  have hln : cN q ≤ 60 := h.2.2.2.2.1
  have hy6 : mY r ≤ 60 := by rw [← h.2.2.2.1]; exact hln
  intro ls H locs hP hD hS hl
  refine lv_aload_n hx hb dL_law_642 rfl (lv_at hl 2 rfl) ?_
  refine x_goI (wn := CW g ad (kClear q).2 ++ MW g o r) (x_rV (As := []) X (c_X5_clearText l g ad q _) yf_X5_clearText yi_X5_clearText wM_L_96 ⟨Nat.le_of_ble_eq_true rfl, Nat.le_of_ble_eq_true rfl⟩ hP hD (List.Perm.refl _) 0 rfl rfl hl rfl rfl (Nat.le_of_ble_eq_true rfl) dL_law_643 ⟨Nat.le_of_ble_eq_true rfl, Nat.le_of_ble_eq_true rfl⟩) hP hD hS LwX.A (List.Perm.refl _) List.perm_append_comm (fun H locs hP hD hS => ?_)
  refine lv_aload_n hx hb dL_law_646 rfl (lv_at hl 3 rfl) ?_
  refine x_goI (wn := CW g ad (kClear q).2 ++ MW g o (mClear r).2) (x_rV (As := []) X (c_X6_clearText l g o r _) yf_X6_clearText yi_X6_clearText wM_L_99 ⟨Nat.le_of_ble_eq_true rfl, Nat.le_of_ble_eq_true rfl⟩ hP hD List.perm_append_comm 0 rfl rfl hl rfl rfl (Nat.le_of_ble_eq_true rfl) dL_law_647 ⟨Nat.le_of_ble_eq_true rfl, Nat.le_of_ble_eq_true rfl⟩) hP hD hS LwX.A List.perm_append_comm (List.Perm.refl _) (fun H locs hP hD hS => ?_)
  obtain ⟨hE, hR⟩ : (kClear q).1 = (mClear r).1 ∧ Rel (kClear q).2 (mClear r).2 := p_clear h
  refine lv_icmp_eq (tgt := 720) hx hb dL_law_650 (by decide) (fun _ => ?_) (fun c1 => absurd hE c1)
  exact nx _ _ hR ls _ _ hP hD hS hl
set_option maxHeartbeats 4000000 in
set_option maxRecDepth 100000 in
/-- errorPosition -/
theorem lw_c21 {p : Program} {l : Launch} {e : Env} {s : State} {m : MethodId} {below : List Frame} {meth : Method} {c : Code} {g : wG} {t : Nat → Nat} {b L : Nat} {xs : Nat → Int32} {ad : Nat → Nat → Nat} {o : Nat → Nat} {i : Nat} (Z : LwX p s m c g t b L xs) (hi : i + 3 ≤ L) {q : CS} {r : MS} (h : Rel q r) (nx : ∀ q1 r1, Rel q1 r1 → LwG p l e s m below meth c g b ad o i 720 q1 r1) : LwG p l e s m below meth c g b ad o i 655 q r := by
  obtain ⟨X, hZ, -, -, -⟩ := id Z
  obtain ⟨⟨hx, hb, hml, hown, hts⟩, hK, hN⟩ := id X
  have hB := h.1.b
  have hlj := h.2.1.1
  have hm5 := h.2.1.2.1
  obtain ⟨cn, hc, hz⟩ := h.1.cn
  have hzm := cn_of h.1 hz
  have hln : cN q ≤ 60 := h.2.2.2.2.1
  have hy6 : mY r ≤ 60 := by rw [← h.2.2.2.1]; exact hln
  obtain ⟨nf, hnf⟩ : ∃ n : Nat, mY r < 0 + n := ⟨mY r + 1, by omega⟩
  intro ls H locs hP hD hS hl
  refine lv_aload_n hx hb dL_law_655 rfl (lv_at hl 2 rfl) ?_
  refine x_goI (wn := CW g ad (kErrPos q).2 ++ MW g o r) (x_rV (As := []) X (c_X5_errorPosition2 l g ad q hln _) yf_X5_errorPosition yi_X5_errorPosition wM_L_100 ⟨Nat.le_of_ble_eq_true rfl, Nat.le_of_ble_eq_true rfl⟩ hP hD (List.Perm.refl _) 0 rfl rfl hl rfl rfl (Nat.le_of_ble_eq_true rfl) dL_law_656 ⟨Nat.le_of_ble_eq_true rfl, Nat.le_of_ble_eq_true rfl⟩) hP hD hS LwX.A (List.Perm.refl _) List.perm_append_comm (fun H locs hP hD hS => ?_)
  refine lv_aload_n hx hb dL_law_659 rfl (lv_at hl 3 rfl) ?_
  refine x_goI (wn := CW g ad (kErrPos q).2 ++ MW g o (epL nf (epS r))) (x_rV (As := []) X (c_X6_errorPosition l g o r hy6 nf hnf _) yf_X6_errorPosition yi_X6_errorPosition wM_L_103 ⟨Nat.le_of_ble_eq_true rfl, Nat.le_of_ble_eq_true rfl⟩ hP hD List.perm_append_comm 0 rfl rfl hl rfl rfl (Nat.le_of_ble_eq_true rfl) dL_law_660 ⟨Nat.le_of_ble_eq_true rfl, Nat.le_of_ble_eq_true rfl⟩) hP hD hS LwX.A List.perm_append_comm (List.Perm.refl _) (fun H locs hP hD hS => ?_)
  obtain ⟨hE, hR⟩ : (kErrPos q).1 = (mW (epL nf (epS r))) ∧ Rel (kErrPos q).2 (epL nf (epS r)) := p_errPos h nf hnf
  refine lv_icmp_eq (tgt := 720) hx hb dL_law_663 (by decide) (fun _ => ?_) (fun c1 => absurd hE c1)
  exact nx _ _ hR ls _ _ hP hD hS hl
set_option maxHeartbeats 4000000 in
set_option maxRecDepth 100000 in
/-- work -/
theorem lw_c22 {p : Program} {l : Launch} {e : Env} {s : State} {m : MethodId} {below : List Frame} {meth : Method} {c : Code} {g : wG} {t : Nat → Nat} {b L : Nat} {xs : Nat → Int32} {ad : Nat → Nat → Nat} {o : Nat → Nat} {i : Nat} (Z : LwX p s m c g t b L xs) (hi : i + 3 ≤ L) {q : CS} {r : MS} (h : Rel q r) (nx : ∀ q1 r1, Rel q1 r1 → LwG p l e s m below meth c g b ad o i 720 q1 r1) : LwG p l e s m below meth c g b ad o i 668 q r := by
  obtain ⟨X, hZ, -, -, -⟩ := id Z
  obtain ⟨⟨hx, hb, hml, hown, hts⟩, hK, hN⟩ := id X
  have hB := h.1.b
  have hlj := h.2.1.1
  have hm5 := h.2.1.2.1
  obtain ⟨cn, hc, hz⟩ := h.1.cn
  have hzm := cn_of h.1 hz
  have hln : cN q ≤ 60 := h.2.2.2.2.1
  have hy6 : mY r ≤ 60 := by rw [← h.2.2.2.1]; exact hln
  obtain ⟨nf, hnf⟩ : ∃ n : Nat, mY r < 0 + n := ⟨mY r + 1, by omega⟩
  obtain ⟨ng, hn31, hng, hng60⟩ : ∃ n : Nat, n < 2 ^ 31 ∧ 60 = nI n ∧ 60 = n := ⟨60, by decide, rfl, rfl⟩
  have hokc : okc q := okc_of hc hz
  intro ls H locs hP hD hS hl
  refine lv_aload_n hx hb dL_law_668 rfl (lv_at hl 2 rfl) ?_
  refine x_goI (wn := CW g ad (kWorkn q ng).2 ++ MW g o r) (x_rV (As := []) X (c_X5_work2 l g ad q hB hlj hln hokc ng hn31 hng.symm _) yf_X5_work yi_X5_work wM_L_104 ⟨Nat.le_of_ble_eq_true rfl, Nat.le_of_ble_eq_true rfl⟩ hP hD (List.Perm.refl _) 0 rfl rfl hl rfl rfl (Nat.le_of_ble_eq_true rfl) dL_law_669 ⟨Nat.le_of_ble_eq_true rfl, Nat.le_of_ble_eq_true rfl⟩) hP hD hS LwX.A (List.Perm.refl _) List.perm_append_comm (fun H locs hP hD hS => ?_)
  refine lv_aload_n hx hb dL_law_672 rfl (lv_at hl 3 rfl) ?_
  refine x_goI (wn := CW g ad (kWorkn q ng).2 ++ MW g o (mWork r nf).2) (x_rV (As := []) X (c_X6_work l g o r hy6 hm5 ⟨cn, hc, hzm⟩ nf hnf (told_okT h nf hnf) _) yf_X6_work yi_X6_work wM_L_107 ⟨Nat.le_of_ble_eq_true rfl, Nat.le_of_ble_eq_true rfl⟩ hP hD List.perm_append_comm 0 rfl rfl hl rfl rfl (Nat.le_of_ble_eq_true rfl) dL_law_673 ⟨Nat.le_of_ble_eq_true rfl, Nat.le_of_ble_eq_true rfl⟩) hP hD hS LwX.A List.perm_append_comm (List.Perm.refl _) (fun H locs hP hD hS => ?_)
  obtain ⟨hE, hR⟩ : (kWorkn q ng).1 = (mWork r nf).1 ∧ Rel (kWorkn q ng).2 (mWork r nf).2 := p_work h nf ng hnf hng60
  refine lv_icmp_eq (tgt := 720) hx hb dL_law_676 (by decide) (fun _ => ?_) (fun c1 => absurd hE c1)
  exact nx _ _ hR ls _ _ hP hD hS hl
set_option maxHeartbeats 4000000 in
set_option maxRecDepth 100000 in
/-- undo -/
theorem lw_c23 {p : Program} {l : Launch} {e : Env} {s : State} {m : MethodId} {below : List Frame} {meth : Method} {c : Code} {g : wG} {t : Nat → Nat} {b L : Nat} {xs : Nat → Int32} {ad : Nat → Nat → Nat} {o : Nat → Nat} {i : Nat} (Z : LwX p s m c g t b L xs) (hi : i + 3 ≤ L) {q : CS} {r : MS} (h : Rel q r) (nx : ∀ q1 r1, Rel q1 r1 → LwG p l e s m below meth c g b ad o i 720 q1 r1) : LwG p l e s m below meth c g b ad o i 681 q r := by
  obtain ⟨X, hZ, -, -, -⟩ := id Z
  obtain ⟨⟨hx, hb, hml, hown, hts⟩, hK, hN⟩ := id X
  have hB := h.1.b
  have hlj := h.2.1.1
  have hm5 := h.2.1.2.1
  obtain ⟨cn, hc, hz⟩ := h.1.cn
  have hzm := cn_of h.1 hz
  have hln : cN q ≤ 60 := h.2.2.2.2.1
  have hy6 : mY r ≤ 60 := by rw [← h.2.2.2.1]; exact hln
  intro ls H locs hP hD hS hl
  refine lv_aload_n hx hb dL_law_681 rfl (lv_at hl 2 rfl) ?_
  refine x_goI (wn := CW g ad (kUndo q).2 ++ MW g o r) (x_rV (As := []) X (c_X5_undo l g ad q hlj (h.2.1.2.2.2.1 _ hlj) _) yf_X5_undo yi_X5_undo wM_L_108 ⟨Nat.le_of_ble_eq_true rfl, Nat.le_of_ble_eq_true rfl⟩ hP hD (List.Perm.refl _) 0 rfl rfl hl rfl rfl (Nat.le_of_ble_eq_true rfl) dL_law_682 ⟨Nat.le_of_ble_eq_true rfl, Nat.le_of_ble_eq_true rfl⟩) hP hD hS LwX.A (List.Perm.refl _) List.perm_append_comm (fun H locs hP hD hS => ?_)
  refine lv_aload_n hx hb dL_law_685 rfl (lv_at hl 3 rfl) ?_
  refine x_goI (wn := CW g ad (kUndo q).2 ++ MW g o (mUndo r).2) (x_rV (As := []) X (c_X6_undo l g o r hm5 _) yf_X6_undo yi_X6_undo wM_L_111 ⟨Nat.le_of_ble_eq_true rfl, Nat.le_of_ble_eq_true rfl⟩ hP hD List.perm_append_comm 0 rfl rfl hl rfl rfl (Nat.le_of_ble_eq_true rfl) dL_law_686 ⟨Nat.le_of_ble_eq_true rfl, Nat.le_of_ble_eq_true rfl⟩) hP hD hS LwX.A List.perm_append_comm (List.Perm.refl _) (fun H locs hP hD hS => ?_)
  obtain ⟨hE, hR⟩ : (kUndo q).1 = (mUndo r).1 ∧ Rel (kUndo q).2 (mUndo r).2 := p_undo h
  refine lv_icmp_eq (tgt := 720) hx hb dL_law_689 (by decide) (fun _ => ?_) (fun c1 => absurd hE c1)
  exact nx _ _ hR ls _ _ hP hD hS hl
set_option maxHeartbeats 4000000 in
set_option maxRecDepth 100000 in
/-- save -/
theorem lw_c24 {p : Program} {l : Launch} {e : Env} {s : State} {m : MethodId} {below : List Frame} {meth : Method} {c : Code} {g : wG} {t : Nat → Nat} {b L : Nat} {xs : Nat → Int32} {ad : Nat → Nat → Nat} {o : Nat → Nat} {i : Nat} (Z : LwX p s m c g t b L xs) (hi : i + 3 ≤ L) {q : CS} {r : MS} (h : Rel q r) (nx : ∀ q1 r1, Rel q1 r1 → LwG p l e s m below meth c g b ad o i 720 q1 r1) : LwG p l e s m below meth c g b ad o i 694 q r := by
  obtain ⟨X, hZ, -, -, -⟩ := id Z
  obtain ⟨⟨hx, hb, hml, hown, hts⟩, hK, hN⟩ := id X
  have hB := h.1.b
  have hlj := h.2.1.1
  have hm5 := h.2.1.2.1
  obtain ⟨cn, hc, hz⟩ := h.1.cn
  have hzm := cn_of h.1 hz
  have hln : cN q ≤ 60 := h.2.2.2.2.1
  have hy6 : mY r ≤ 60 := by rw [← h.2.2.2.1]; exact hln
  intro ls H locs hP hD hS hl
  refine lv_aload_n hx hb dL_law_694 rfl (lv_at hl 2 rfl) ?_
  refine x_goI (wn := CW g ad (kSave q).2 ++ MW g o r) (x_rV (As := []) X (c_X5_save l g ad q hB _) yf_X5_save yi_X5_save wM_L_112 ⟨Nat.le_of_ble_eq_true rfl, Nat.le_of_ble_eq_true rfl⟩ hP hD (List.Perm.refl _) 0 rfl rfl hl rfl rfl (Nat.le_of_ble_eq_true rfl) dL_law_695 ⟨Nat.le_of_ble_eq_true rfl, Nat.le_of_ble_eq_true rfl⟩) hP hD hS LwX.A (List.Perm.refl _) List.perm_append_comm (fun H locs hP hD hS => ?_)
  refine lv_aload_n hx hb dL_law_698 rfl (lv_at hl 3 rfl) ?_
  refine x_goI (wn := CW g ad (kSave q).2 ++ MW g o (mkp r)) (x_rV (As := []) X (c_X6_save l g o r _) yf_X6_save yi_X6_save wM_L_115 ⟨Nat.le_of_ble_eq_true rfl, Nat.le_of_ble_eq_true rfl⟩ hP hD List.perm_append_comm 0 rfl rfl hl rfl rfl (Nat.le_of_ble_eq_true rfl) dL_law_699 ⟨Nat.le_of_ble_eq_true rfl, Nat.le_of_ble_eq_true rfl⟩) hP hD hS LwX.A List.perm_append_comm (List.Perm.refl _) (fun H locs hP hD hS => ?_)
  obtain ⟨hE, hR⟩ : (kSave q).1 = (mZ r 0) ∧ Rel (kSave q).2 (mkp r) := p_save h
  refine lv_icmp_eq (tgt := 720) hx hb dL_law_702 (by decide) (fun _ => ?_) (fun c1 => absurd hE c1)
  exact nx _ _ hR ls _ _ hP hD hS hl
set_option maxHeartbeats 4000000 in
set_option maxRecDepth 100000 in
/-- restore -/
theorem lw_c25 {p : Program} {l : Launch} {e : Env} {s : State} {m : MethodId} {below : List Frame} {meth : Method} {c : Code} {g : wG} {t : Nat → Nat} {b L : Nat} {xs : Nat → Int32} {ad : Nat → Nat → Nat} {o : Nat → Nat} {i : Nat} (Z : LwX p s m c g t b L xs) (hi : i + 3 ≤ L) {q : CS} {r : MS} (h : Rel q r) (nx : ∀ q1 r1, Rel q1 r1 → LwG p l e s m below meth c g b ad o i 720 q1 r1) : LwG p l e s m below meth c g b ad o i 707 q r := by
  obtain ⟨X, hZ, -, -, -⟩ := id Z
  obtain ⟨⟨hx, hb, hml, hown, hts⟩, hK, hN⟩ := id X
  have hB := h.1.b
  have hlj := h.2.1.1
  have hm5 := h.2.1.2.1
  obtain ⟨cn, hc, hz⟩ := h.1.cn
  have hzm := cn_of h.1 hz
  have hln : cN q ≤ 60 := h.2.2.2.2.1
  have hy6 : mY r ≤ 60 := by rw [← h.2.2.2.1]; exact hln
  intro ls H locs hP hD hS hl
  refine lv_aload_n hx hb dL_law_707 rfl (lv_at hl 2 rfl) ?_
  refine x_goI (wn := CW g ad (kRestore q).2 ++ MW g o r) (x_rV (As := []) X (c_X5_restore l g ad q hB hlj h.2.2.1.1 _) yf_X5_restore yi_X5_restore wM_L_116 ⟨Nat.le_of_ble_eq_true rfl, Nat.le_of_ble_eq_true rfl⟩ hP hD (List.Perm.refl _) 0 rfl rfl hl rfl rfl (Nat.le_of_ble_eq_true rfl) dL_law_708 ⟨Nat.le_of_ble_eq_true rfl, Nat.le_of_ble_eq_true rfl⟩) hP hD hS LwX.A (List.Perm.refl _) List.perm_append_comm (fun H locs hP hD hS => ?_)
  refine lv_aload_n hx hb dL_law_711 rfl (lv_at hl 3 rfl) ?_
  refine x_goI (wn := CW g ad (kRestore q).2 ++ MW g o (mRestore r).2) (x_rV (As := []) X (c_X6_restore l g o r hm5 _) yf_X6_restore yi_X6_restore wM_L_119 ⟨Nat.le_of_ble_eq_true rfl, Nat.le_of_ble_eq_true rfl⟩ hP hD List.perm_append_comm 0 rfl rfl hl rfl rfl (Nat.le_of_ble_eq_true rfl) dL_law_712 ⟨Nat.le_of_ble_eq_true rfl, Nat.le_of_ble_eq_true rfl⟩) hP hD hS LwX.A List.perm_append_comm (List.Perm.refl _) (fun H locs hP hD hS => ?_)
  obtain ⟨hE, hR⟩ : (kRestore q).1 = (mRestore r).1 ∧ Rel (kRestore q).2 (mRestore r).2 := p_restore h
  refine lv_icmp_eq (tgt := 720) hx hb dL_law_715 (by decide) (fun _ => ?_) (fun c1 => absurd hE c1)
  exact nx _ _ hR ls _ _ hP hD hS hl

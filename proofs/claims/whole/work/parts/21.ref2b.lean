def pmsM (cn : Nat) : Nat → RI → Int32 → RI × Int32
  | 0, z, q => (z, q)
  | n + 1, z, q => pmsM cn n (minM cn z) (q + minMR z)
theorem pmsM_7 (cn n : Nat) : ∀ (z : RI) (q : Int32), (pmsM cn n z q).1 7 = z 7 := by
  induction n with
  | zero => intro z q; rfl
  | succ n ih => intro z q; simp only [pmsM]; rw [ih, minM_7]
set_option maxHeartbeats 4000000 in
set_option maxRecDepth 100000 in
theorem c_X6_passes (l : Launch) (g : wG) (o : Nat → Nat) (r : MS) (cn : Nat) (hc : cn ≤ 6) (hz : mZ r 7 = nI cn) (mn : Nat) (hm : mn < 2 ^ 31) : CtI l g 5 yX6_passes cX6_passes 4 (some .int) [.ref (o 0), .int (nI mn)] (MW g o r) ((pmsM cn mn (mZ r) 0).2) (MW g o (mz r ((pmsM cn mn (mZ r) 0).1))) := by
  intro sz
  refine x_enter (Qc := fun A => QI g A ((pmsM cn mn (mZ r) 0).2) (MW g o (mz r ((pmsM cn mn (mZ r) 0).1)))) (by decide) (Nat.le_of_ble_eq_true rfl) ?_
  intro p e s m args below meth c X hr hlocks A hA hP hD hS ls hl
  obtain ⟨⟨hx, hb, hml, hown, hts⟩, hK, hN⟩ := id X
  have hl : lv_has ls 4 [(0, .ref (o 0)), (1, .int (nI mn))] := hl
  refine lv_iconst (v := 0) hx hb dX6_passes_0 (by decide) ?_
  refine lv_istore_n (lv' := [(2, .int 0), (0, .ref (o 0)), (1, .int (nI mn))]) hx hb dX6_passes_1 rfl hl (by decide) rfl (fun ls hl => ?_)
  refine lv_iconst (v := 0) hx hb dX6_passes_2 (by decide) ?_
  refine lv_istore_n (lv' := [(3, .int 0), (2, .int 0), (0, .ref (o 0)), (1, .int (nI mn))]) hx hb dX6_passes_3 rfl hl (by decide) rfl (fun ls hl => ?_)
  suffices LP4 : ∀ (n : Nat) (k : Nat) (y : RI) (q : Int32), k + n = mn → y 7 = nI cn → pmsM cn n y q = pmsM cn mn (mZ r) 0 → ∀ (ls : Array Slot) (H : Heap) (locs : List Loc), va_P g.1 vwCl (MW g o (mz r y)) H → va_D A (MW g o (mz r y)) → va_S A s.heap H locs → lv_has ls 4 [(3, .int (nI k)), (2, .int q), (0, .ref (o 0)), (1, .int (nI mn))] → W p l e (rmD 5) s m args below meth c H locs 0 0 (MQ below (QI g A ((pmsM cn mn (mZ r) 0).2) (MW g o (mz r ((pmsM cn mn (mZ r) 0).1)))) args s 0 0 A) (F0 m 4 ls []) from LP4 mn 0 (mZ r) 0 (Nat.zero_add mn) hz rfl ls _ _ hP hD hS (lv_sub hl [0, 1, 2, 3] rfl)
  intro n
  induction n with
  | zero =>
    intro k y q hk hy ht ls H locs hP hD hS hl
    refine lv_iload_n hx hb dX6_passes_4 rfl (lv_at hl 0 rfl) ?_
    refine lv_iload_n hx hb dX6_passes_5 rfl (lv_at hl 3 rfl) ?_
    refine lv_icmp_ge (tgt := 22) hx hb dX6_passes_6 (by decide) (fun c_1 => ?_) (fun q9 => absurd (show (nI mn) ≤ (nI k) from (nI_le (by omega) (by omega))) (show ¬ ((nI mn) ≤ (nI k)) from q9))
    refine lv_iload_n hx hb dX6_passes_22 rfl (lv_at hl 1 rfl) ?_
    have E : (MW g o (mz r y) : va_W) = MW g o (mz r (pmsM cn mn (mZ r) 0).1) := by rw [← ht]; rfl
    exact x_iret X hr hlocks (pw E hP) (dw E hD) hS (by rw [← ht]; rfl) dX6_passes_23
  | succ n ih =>
    intro k y q hk hy ht ls H locs hP hD hS hl
    refine lv_iload_n hx hb dX6_passes_4 rfl (lv_at hl 0 rfl) ?_
    refine lv_iload_n hx hb dX6_passes_5 rfl (lv_at hl 3 rfl) ?_
    refine lv_icmp_ge (tgt := 22) hx hb dX6_passes_6 (by decide) (fun q9 => absurd q9 (show ¬ (nI mn) ≤ (nI k) from (nI_ge (by omega) (by omega)))) (fun c_2 => ?_)
    refine lv_iload_n hx hb dX6_passes_9 rfl (lv_at hl 1 rfl) ?_
    refine lv_aload_n hx hb dX6_passes_10 rfl (lv_at hl 2 rfl) ?_
    refine x_goI (wn := MW g o (mz r (minM cn y))) (x_rV (As := []) X (c_X6_minute l g o (mz r y) cn hc hy  _) yf_X6_minute yi_X6_minute wM_X6_86 ⟨Nat.le_of_ble_eq_true rfl, Nat.le_of_ble_eq_true rfl⟩ hP hD (p_all _) 0 rfl rfl hl rfl rfl (Nat.le_of_ble_eq_true rfl) dX6_passes_11 ⟨Nat.zero_le _, Nat.zero_le _⟩) hP hD hS hA (p_all _) (p_back _) (fun H locs hP hD hS => ?_)
    refine lv_iadd hx hb dX6_passes_14 ?_
    refine lv_istore_n (lv' := [(2, .int (q + (minMR y))), (3, .int (nI k)), (0, .ref (o 0)), (1, .int (nI mn))]) hx hb dX6_passes_15 rfl hl (by decide) rfl (fun ls hl => ?_)
    refine lv_iinc (v := (nI (k + 1))) (lv' := [(3, .int (nI (k + 1))), (2, .int (q + (minMR y))), (0, .ref (o 0)), (1, .int (nI mn))]) hx hb dX6_passes_16 hl (k := 1) rfl (nI_1 _) (by decide) rfl (fun ls hl => ?_)
    refine lv_goto (tgt := 4) hx hb dX6_passes_19 (by decide) ?_
    exact ih (k + 1) (minM cn y) (q + minMR y) (by omega) (by rw [minM_7]; exact hy) ht ls _ _ hP hD hS (lv_sub hl [0, 1, 2, 3] rfl)

set_option maxHeartbeats 4000000 in
set_option maxRecDepth 100000 in
theorem c_X6_sum_4 (l : Launch) (g : wG) (o : Nat → Nat) (r : MS) : CtI l g 1 yX6_sum cX6_sum 4 (some .int) [.ref (o 0), .int 4] (MW g o r) ((((0 + mZ r 12) + mZ r 19) + mZ r 26) + mZ r 33) (MW g o r) := by
  intro sz
  refine x_enter (Qc := fun A => QI g A ((((0 + mZ r 12) + mZ r 19) + mZ r 26) + mZ r 33) (MW g o r)) (by decide) (Nat.le_of_ble_eq_true rfl) ?_
  intro p e s m args below meth c X hr hlocks A hA hP hD hS ls hl
  obtain ⟨⟨hx, hb, hml, hown, hts⟩, hK, hN⟩ := id X
  have hl : lv_has ls 4 [(0, .ref (o 0)), (1, .int 4)] := hl
  refine lv_iconst (v := 0) hx hb dX6_sum_0 (by decide) ?_
  refine lv_istore_n (lv' := [(2, .int 0), (0, .ref (o 0)), (1, .int 4)]) hx hb dX6_sum_1 rfl hl (by decide) rfl (fun ls hl => ?_)
  refine lv_iconst (v := 0) hx hb dX6_sum_2 (by decide) ?_
  refine lv_istore_n (lv' := [(3, .int 0), (2, .int 0), (0, .ref (o 0)), (1, .int 4)]) hx hb dX6_sum_3 rfl hl (by decide) rfl (fun ls hl => ?_)
  refine lv_iload_n hx hb dX6_sum_4 rfl (lv_at hl 0 rfl) ?_
  refine lv_iconst (v := 4) hx hb dX6_sum_5 (by decide) ?_
  refine lv_icmp_ge (tgt := 24) hx hb dX6_sum_6 (by decide) (fun q9 => absurd q9 (show ¬ (4 : Int32) ≤ (0 : Int32) from (by decide))) (fun c_1 => ?_)
  refine lv_iload_n hx hb dX6_sum_9 rfl (lv_at hl 1 rfl) ?_
  refine lv_aload_n hx hb dX6_sum_10 rfl (lv_at hl 2 rfl) ?_
  refine lv_iload_n hx hb dX6_sum_11 rfl (lv_at hl 0 rfl) ?_
  refine lv_iload_n hx hb dX6_sum_12 rfl (lv_at hl 3 rfl) ?_
  refine x_goI (wn := MW g o r) (x_rV (As := [.int 0, .int 4]) X (c_X6_of l g o r 0 4 (by decide) (by decide)  _) yf_X6_of yi_X6_of wM_X6_56 ⟨Nat.le_of_ble_eq_true rfl, Nat.le_of_ble_eq_true rfl⟩ hP hD (p_all _) 0 rfl rfl hl rfl rfl (Nat.le_of_ble_eq_true rfl) dX6_sum_13 ⟨Nat.zero_le _, Nat.zero_le _⟩) hP hD hS hA (p_all _) (p_back _) (fun H locs hP hD hS => ?_)
  refine lv_iadd hx hb dX6_sum_16 ?_
  refine lv_istore_n (lv' := [(2, .int (0 + ((mZ r) 12))), (3, .int 0), (0, .ref (o 0)), (1, .int 4)]) hx hb dX6_sum_17 rfl hl (by decide) rfl (fun ls hl => ?_)
  refine lv_iinc (v := 1) (lv' := [(3, .int 1), (2, .int (0 + ((mZ r) 12))), (0, .ref (o 0)), (1, .int 4)]) hx hb dX6_sum_18 hl (k := 1) rfl rfl (by decide) rfl (fun ls hl => ?_)
  refine lv_goto (tgt := 4) hx hb dX6_sum_21 (by decide) ?_
  refine lv_iload_n hx hb dX6_sum_4 rfl (lv_at hl 0 rfl) ?_
  refine lv_iconst (v := 4) hx hb dX6_sum_5 (by decide) ?_
  refine lv_icmp_ge (tgt := 24) hx hb dX6_sum_6 (by decide) (fun q9 => absurd q9 (show ¬ (4 : Int32) ≤ (1 : Int32) from (by decide))) (fun c_2 => ?_)
  refine lv_iload_n hx hb dX6_sum_9 rfl (lv_at hl 1 rfl) ?_
  refine lv_aload_n hx hb dX6_sum_10 rfl (lv_at hl 2 rfl) ?_
  refine lv_iload_n hx hb dX6_sum_11 rfl (lv_at hl 0 rfl) ?_
  refine lv_iload_n hx hb dX6_sum_12 rfl (lv_at hl 3 rfl) ?_
  refine x_goI (wn := MW g o r) (x_rV (As := [.int 1, .int 4]) X (c_X6_of l g o r 1 4 (by decide) (by decide)  _) yf_X6_of yi_X6_of wM_X6_56 ⟨Nat.le_of_ble_eq_true rfl, Nat.le_of_ble_eq_true rfl⟩ hP hD (p_all _) 0 rfl rfl hl rfl rfl (Nat.le_of_ble_eq_true rfl) dX6_sum_13 ⟨Nat.zero_le _, Nat.zero_le _⟩) hP hD hS hA (p_all _) (p_back _) (fun H locs hP hD hS => ?_)
  refine lv_iadd hx hb dX6_sum_16 ?_
  refine lv_istore_n (lv' := [(2, .int ((0 + ((mZ r) 12)) + ((mZ r) 19))), (3, .int 1), (0, .ref (o 0)), (1, .int 4)]) hx hb dX6_sum_17 rfl hl (by decide) rfl (fun ls hl => ?_)
  refine lv_iinc (v := 2) (lv' := [(3, .int 2), (2, .int ((0 + ((mZ r) 12)) + ((mZ r) 19))), (0, .ref (o 0)), (1, .int 4)]) hx hb dX6_sum_18 hl (k := 1) rfl rfl (by decide) rfl (fun ls hl => ?_)
  refine lv_goto (tgt := 4) hx hb dX6_sum_21 (by decide) ?_
  refine lv_iload_n hx hb dX6_sum_4 rfl (lv_at hl 0 rfl) ?_
  refine lv_iconst (v := 4) hx hb dX6_sum_5 (by decide) ?_
  refine lv_icmp_ge (tgt := 24) hx hb dX6_sum_6 (by decide) (fun q9 => absurd q9 (show ¬ (4 : Int32) ≤ (2 : Int32) from (by decide))) (fun c_3 => ?_)
  refine lv_iload_n hx hb dX6_sum_9 rfl (lv_at hl 1 rfl) ?_
  refine lv_aload_n hx hb dX6_sum_10 rfl (lv_at hl 2 rfl) ?_
  refine lv_iload_n hx hb dX6_sum_11 rfl (lv_at hl 0 rfl) ?_
  refine lv_iload_n hx hb dX6_sum_12 rfl (lv_at hl 3 rfl) ?_
  refine x_goI (wn := MW g o r) (x_rV (As := [.int 2, .int 4]) X (c_X6_of l g o r 2 4 (by decide) (by decide)  _) yf_X6_of yi_X6_of wM_X6_56 ⟨Nat.le_of_ble_eq_true rfl, Nat.le_of_ble_eq_true rfl⟩ hP hD (p_all _) 0 rfl rfl hl rfl rfl (Nat.le_of_ble_eq_true rfl) dX6_sum_13 ⟨Nat.zero_le _, Nat.zero_le _⟩) hP hD hS hA (p_all _) (p_back _) (fun H locs hP hD hS => ?_)
  refine lv_iadd hx hb dX6_sum_16 ?_
  refine lv_istore_n (lv' := [(2, .int (((0 + ((mZ r) 12)) + ((mZ r) 19)) + ((mZ r) 26))), (3, .int 2), (0, .ref (o 0)), (1, .int 4)]) hx hb dX6_sum_17 rfl hl (by decide) rfl (fun ls hl => ?_)
  refine lv_iinc (v := 3) (lv' := [(3, .int 3), (2, .int (((0 + ((mZ r) 12)) + ((mZ r) 19)) + ((mZ r) 26))), (0, .ref (o 0)), (1, .int 4)]) hx hb dX6_sum_18 hl (k := 1) rfl rfl (by decide) rfl (fun ls hl => ?_)
  refine lv_goto (tgt := 4) hx hb dX6_sum_21 (by decide) ?_
  refine lv_iload_n hx hb dX6_sum_4 rfl (lv_at hl 0 rfl) ?_
  refine lv_iconst (v := 4) hx hb dX6_sum_5 (by decide) ?_
  refine lv_icmp_ge (tgt := 24) hx hb dX6_sum_6 (by decide) (fun q9 => absurd q9 (show ¬ (4 : Int32) ≤ (3 : Int32) from (by decide))) (fun c_4 => ?_)
  refine lv_iload_n hx hb dX6_sum_9 rfl (lv_at hl 1 rfl) ?_
  refine lv_aload_n hx hb dX6_sum_10 rfl (lv_at hl 2 rfl) ?_
  refine lv_iload_n hx hb dX6_sum_11 rfl (lv_at hl 0 rfl) ?_
  refine lv_iload_n hx hb dX6_sum_12 rfl (lv_at hl 3 rfl) ?_
  refine x_goI (wn := MW g o r) (x_rV (As := [.int 3, .int 4]) X (c_X6_of l g o r 3 4 (by decide) (by decide)  _) yf_X6_of yi_X6_of wM_X6_56 ⟨Nat.le_of_ble_eq_true rfl, Nat.le_of_ble_eq_true rfl⟩ hP hD (p_all _) 0 rfl rfl hl rfl rfl (Nat.le_of_ble_eq_true rfl) dX6_sum_13 ⟨Nat.zero_le _, Nat.zero_le _⟩) hP hD hS hA (p_all _) (p_back _) (fun H locs hP hD hS => ?_)
  refine lv_iadd hx hb dX6_sum_16 ?_
  refine lv_istore_n (lv' := [(2, .int ((((0 + ((mZ r) 12)) + ((mZ r) 19)) + ((mZ r) 26)) + ((mZ r) 33))), (3, .int 3), (0, .ref (o 0)), (1, .int 4)]) hx hb dX6_sum_17 rfl hl (by decide) rfl (fun ls hl => ?_)
  refine lv_iinc (v := 4) (lv' := [(3, .int 4), (2, .int ((((0 + ((mZ r) 12)) + ((mZ r) 19)) + ((mZ r) 26)) + ((mZ r) 33))), (0, .ref (o 0)), (1, .int 4)]) hx hb dX6_sum_18 hl (k := 1) rfl rfl (by decide) rfl (fun ls hl => ?_)
  refine lv_goto (tgt := 4) hx hb dX6_sum_21 (by decide) ?_
  refine lv_iload_n hx hb dX6_sum_4 rfl (lv_at hl 0 rfl) ?_
  refine lv_iconst (v := 4) hx hb dX6_sum_5 (by decide) ?_
  refine lv_icmp_ge (tgt := 24) hx hb dX6_sum_6 (by decide) (fun c_5 => ?_) (fun q9 => absurd (show (4 : Int32) ≤ (4 : Int32) from (by decide)) (show ¬ ((4 : Int32) ≤ (4 : Int32)) from q9))
  refine lv_iload_n hx hb dX6_sum_24 rfl (lv_at hl 1 rfl) ?_
  exact x_iret X hr hlocks hP hD hS rfl dX6_sum_25

set_option maxHeartbeats 4000000 in
set_option maxRecDepth 100000 in
theorem c_X6_sum_6 (l : Launch) (g : wG) (o : Nat → Nat) (r : MS) : CtI l g 1 yX6_sum cX6_sum 4 (some .int) [.ref (o 0), .int 6] (MW g o r) ((((0 + mZ r 14) + mZ r 21) + mZ r 28) + mZ r 35) (MW g o r) := by
  intro sz
  refine x_enter (Qc := fun A => QI g A ((((0 + mZ r 14) + mZ r 21) + mZ r 28) + mZ r 35) (MW g o r)) (by decide) (Nat.le_of_ble_eq_true rfl) ?_
  intro p e s m args below meth c X hr hlocks A hA hP hD hS ls hl
  obtain ⟨⟨hx, hb, hml, hown, hts⟩, hK, hN⟩ := id X
  have hl : lv_has ls 4 [(0, .ref (o 0)), (1, .int 6)] := hl
  refine lv_iconst (v := 0) hx hb dX6_sum_0 (by decide) ?_
  refine lv_istore_n (lv' := [(2, .int 0), (0, .ref (o 0)), (1, .int 6)]) hx hb dX6_sum_1 rfl hl (by decide) rfl (fun ls hl => ?_)
  refine lv_iconst (v := 0) hx hb dX6_sum_2 (by decide) ?_
  refine lv_istore_n (lv' := [(3, .int 0), (2, .int 0), (0, .ref (o 0)), (1, .int 6)]) hx hb dX6_sum_3 rfl hl (by decide) rfl (fun ls hl => ?_)
  refine lv_iload_n hx hb dX6_sum_4 rfl (lv_at hl 0 rfl) ?_
  refine lv_iconst (v := 4) hx hb dX6_sum_5 (by decide) ?_
  refine lv_icmp_ge (tgt := 24) hx hb dX6_sum_6 (by decide) (fun q9 => absurd q9 (show ¬ (4 : Int32) ≤ (0 : Int32) from (by decide))) (fun c_1 => ?_)
  refine lv_iload_n hx hb dX6_sum_9 rfl (lv_at hl 1 rfl) ?_
  refine lv_aload_n hx hb dX6_sum_10 rfl (lv_at hl 2 rfl) ?_
  refine lv_iload_n hx hb dX6_sum_11 rfl (lv_at hl 0 rfl) ?_
  refine lv_iload_n hx hb dX6_sum_12 rfl (lv_at hl 3 rfl) ?_
  refine x_goI (wn := MW g o r) (x_rV (As := [.int 0, .int 6]) X (c_X6_of l g o r 0 6 (by decide) (by decide)  _) yf_X6_of yi_X6_of wM_X6_56 ⟨Nat.le_of_ble_eq_true rfl, Nat.le_of_ble_eq_true rfl⟩ hP hD (p_all _) 0 rfl rfl hl rfl rfl (Nat.le_of_ble_eq_true rfl) dX6_sum_13 ⟨Nat.zero_le _, Nat.zero_le _⟩) hP hD hS hA (p_all _) (p_back _) (fun H locs hP hD hS => ?_)
  refine lv_iadd hx hb dX6_sum_16 ?_
  refine lv_istore_n (lv' := [(2, .int (0 + ((mZ r) 14))), (3, .int 0), (0, .ref (o 0)), (1, .int 6)]) hx hb dX6_sum_17 rfl hl (by decide) rfl (fun ls hl => ?_)
  refine lv_iinc (v := 1) (lv' := [(3, .int 1), (2, .int (0 + ((mZ r) 14))), (0, .ref (o 0)), (1, .int 6)]) hx hb dX6_sum_18 hl (k := 1) rfl rfl (by decide) rfl (fun ls hl => ?_)
  refine lv_goto (tgt := 4) hx hb dX6_sum_21 (by decide) ?_
  refine lv_iload_n hx hb dX6_sum_4 rfl (lv_at hl 0 rfl) ?_
  refine lv_iconst (v := 4) hx hb dX6_sum_5 (by decide) ?_
  refine lv_icmp_ge (tgt := 24) hx hb dX6_sum_6 (by decide) (fun q9 => absurd q9 (show ¬ (4 : Int32) ≤ (1 : Int32) from (by decide))) (fun c_2 => ?_)
  refine lv_iload_n hx hb dX6_sum_9 rfl (lv_at hl 1 rfl) ?_
  refine lv_aload_n hx hb dX6_sum_10 rfl (lv_at hl 2 rfl) ?_
  refine lv_iload_n hx hb dX6_sum_11 rfl (lv_at hl 0 rfl) ?_
  refine lv_iload_n hx hb dX6_sum_12 rfl (lv_at hl 3 rfl) ?_
  refine x_goI (wn := MW g o r) (x_rV (As := [.int 1, .int 6]) X (c_X6_of l g o r 1 6 (by decide) (by decide)  _) yf_X6_of yi_X6_of wM_X6_56 ⟨Nat.le_of_ble_eq_true rfl, Nat.le_of_ble_eq_true rfl⟩ hP hD (p_all _) 0 rfl rfl hl rfl rfl (Nat.le_of_ble_eq_true rfl) dX6_sum_13 ⟨Nat.zero_le _, Nat.zero_le _⟩) hP hD hS hA (p_all _) (p_back _) (fun H locs hP hD hS => ?_)
  refine lv_iadd hx hb dX6_sum_16 ?_
  refine lv_istore_n (lv' := [(2, .int ((0 + ((mZ r) 14)) + ((mZ r) 21))), (3, .int 1), (0, .ref (o 0)), (1, .int 6)]) hx hb dX6_sum_17 rfl hl (by decide) rfl (fun ls hl => ?_)
  refine lv_iinc (v := 2) (lv' := [(3, .int 2), (2, .int ((0 + ((mZ r) 14)) + ((mZ r) 21))), (0, .ref (o 0)), (1, .int 6)]) hx hb dX6_sum_18 hl (k := 1) rfl rfl (by decide) rfl (fun ls hl => ?_)
  refine lv_goto (tgt := 4) hx hb dX6_sum_21 (by decide) ?_
  refine lv_iload_n hx hb dX6_sum_4 rfl (lv_at hl 0 rfl) ?_
  refine lv_iconst (v := 4) hx hb dX6_sum_5 (by decide) ?_
  refine lv_icmp_ge (tgt := 24) hx hb dX6_sum_6 (by decide) (fun q9 => absurd q9 (show ¬ (4 : Int32) ≤ (2 : Int32) from (by decide))) (fun c_3 => ?_)
  refine lv_iload_n hx hb dX6_sum_9 rfl (lv_at hl 1 rfl) ?_
  refine lv_aload_n hx hb dX6_sum_10 rfl (lv_at hl 2 rfl) ?_
  refine lv_iload_n hx hb dX6_sum_11 rfl (lv_at hl 0 rfl) ?_
  refine lv_iload_n hx hb dX6_sum_12 rfl (lv_at hl 3 rfl) ?_
  refine x_goI (wn := MW g o r) (x_rV (As := [.int 2, .int 6]) X (c_X6_of l g o r 2 6 (by decide) (by decide)  _) yf_X6_of yi_X6_of wM_X6_56 ⟨Nat.le_of_ble_eq_true rfl, Nat.le_of_ble_eq_true rfl⟩ hP hD (p_all _) 0 rfl rfl hl rfl rfl (Nat.le_of_ble_eq_true rfl) dX6_sum_13 ⟨Nat.zero_le _, Nat.zero_le _⟩) hP hD hS hA (p_all _) (p_back _) (fun H locs hP hD hS => ?_)
  refine lv_iadd hx hb dX6_sum_16 ?_
  refine lv_istore_n (lv' := [(2, .int (((0 + ((mZ r) 14)) + ((mZ r) 21)) + ((mZ r) 28))), (3, .int 2), (0, .ref (o 0)), (1, .int 6)]) hx hb dX6_sum_17 rfl hl (by decide) rfl (fun ls hl => ?_)
  refine lv_iinc (v := 3) (lv' := [(3, .int 3), (2, .int (((0 + ((mZ r) 14)) + ((mZ r) 21)) + ((mZ r) 28))), (0, .ref (o 0)), (1, .int 6)]) hx hb dX6_sum_18 hl (k := 1) rfl rfl (by decide) rfl (fun ls hl => ?_)
  refine lv_goto (tgt := 4) hx hb dX6_sum_21 (by decide) ?_
  refine lv_iload_n hx hb dX6_sum_4 rfl (lv_at hl 0 rfl) ?_
  refine lv_iconst (v := 4) hx hb dX6_sum_5 (by decide) ?_
  refine lv_icmp_ge (tgt := 24) hx hb dX6_sum_6 (by decide) (fun q9 => absurd q9 (show ¬ (4 : Int32) ≤ (3 : Int32) from (by decide))) (fun c_4 => ?_)
  refine lv_iload_n hx hb dX6_sum_9 rfl (lv_at hl 1 rfl) ?_
  refine lv_aload_n hx hb dX6_sum_10 rfl (lv_at hl 2 rfl) ?_
  refine lv_iload_n hx hb dX6_sum_11 rfl (lv_at hl 0 rfl) ?_
  refine lv_iload_n hx hb dX6_sum_12 rfl (lv_at hl 3 rfl) ?_
  refine x_goI (wn := MW g o r) (x_rV (As := [.int 3, .int 6]) X (c_X6_of l g o r 3 6 (by decide) (by decide)  _) yf_X6_of yi_X6_of wM_X6_56 ⟨Nat.le_of_ble_eq_true rfl, Nat.le_of_ble_eq_true rfl⟩ hP hD (p_all _) 0 rfl rfl hl rfl rfl (Nat.le_of_ble_eq_true rfl) dX6_sum_13 ⟨Nat.zero_le _, Nat.zero_le _⟩) hP hD hS hA (p_all _) (p_back _) (fun H locs hP hD hS => ?_)
  refine lv_iadd hx hb dX6_sum_16 ?_
  refine lv_istore_n (lv' := [(2, .int ((((0 + ((mZ r) 14)) + ((mZ r) 21)) + ((mZ r) 28)) + ((mZ r) 35))), (3, .int 3), (0, .ref (o 0)), (1, .int 6)]) hx hb dX6_sum_17 rfl hl (by decide) rfl (fun ls hl => ?_)
  refine lv_iinc (v := 4) (lv' := [(3, .int 4), (2, .int ((((0 + ((mZ r) 14)) + ((mZ r) 21)) + ((mZ r) 28)) + ((mZ r) 35))), (0, .ref (o 0)), (1, .int 6)]) hx hb dX6_sum_18 hl (k := 1) rfl rfl (by decide) rfl (fun ls hl => ?_)
  refine lv_goto (tgt := 4) hx hb dX6_sum_21 (by decide) ?_
  refine lv_iload_n hx hb dX6_sum_4 rfl (lv_at hl 0 rfl) ?_
  refine lv_iconst (v := 4) hx hb dX6_sum_5 (by decide) ?_
  refine lv_icmp_ge (tgt := 24) hx hb dX6_sum_6 (by decide) (fun c_5 => ?_) (fun q9 => absurd (show (4 : Int32) ≤ (4 : Int32) from (by decide)) (show ¬ ((4 : Int32) ≤ (4 : Int32)) from q9))
  refine lv_iload_n hx hb dX6_sum_24 rfl (lv_at hl 1 rfl) ?_
  exact x_iret X hr hlocks hP hD hS rfl dX6_sum_25

def mxM (w m : Int32) : Int32 := if w ≤ m then m else w
def spM (z : RI) : Int32 := (mxM (distM (z 29) (z 22)) (mxM (distM (z 29) (z 15)) (mxM (distM (z 29) (z 8)) (mxM (distM (z 22) (z 15)) (mxM (distM (z 22) (z 8)) (mxM (distM (z 15) (z 8)) 0))))))
set_option maxHeartbeats 4000000 in
set_option maxRecDepth 100000 in
theorem c_X6_spread (l : Launch) (g : wG) (o : Nat → Nat) (r : MS) : CtI l g 1 yX6_spread cX6_spread 5 (some .int) [.ref (o 0)] (MW g o r) (spM (mZ r)) (MW g o r) := by
  intro sz
  refine x_enter (Qc := fun A => QI g A (spM (mZ r)) (MW g o r)) (by decide) (Nat.le_of_ble_eq_true rfl) ?_
  intro p e s m args below meth c X hr hlocks A hA hP hD hS ls hl
  obtain ⟨⟨hx, hb, hml, hown, hts⟩, hK, hN⟩ := id X
  have hl : lv_has ls 5 [(0, .ref (o 0))] := hl
  refine lv_iconst (v := 0) hx hb dX6_spread_0 (by decide) ?_
  refine lv_istore_n (lv' := [(1, .int 0), (0, .ref (o 0))]) hx hb dX6_spread_1 rfl hl (by decide) rfl (fun ls hl => ?_)
  refine lv_iconst (v := 0) hx hb dX6_spread_2 (by decide) ?_
  refine lv_istore_n (lv' := [(2, .int 0), (1, .int 0), (0, .ref (o 0))]) hx hb dX6_spread_3 rfl hl (by decide) rfl (fun ls hl => ?_)
  refine lv_iload_n hx hb dX6_spread_4 rfl (lv_at hl 0 rfl) ?_
  refine lv_iconst (v := 4) hx hb dX6_spread_5 (by decide) ?_
  refine lv_icmp_ge (tgt := 58) hx hb dX6_spread_6 (by decide) (fun q9 => absurd q9 (show ¬ (4 : Int32) ≤ (0 : Int32) from (by decide))) (fun c_1 => ?_)
  refine lv_iconst (v := 0) hx hb dX6_spread_9 (by decide) ?_
  refine lv_istore_n (lv' := [(3, .int 0), (2, .int 0), (1, .int 0), (0, .ref (o 0))]) hx hb dX6_spread_10 rfl hl (by decide) rfl (fun ls hl => ?_)
  refine lv_iload_n hx hb dX6_spread_11 rfl (lv_at hl 0 rfl) ?_
  refine lv_iload_n hx hb dX6_spread_12 rfl (lv_at hl 1 rfl) ?_
  refine lv_icmp_ge (tgt := 52) hx hb dX6_spread_13 (by decide) (fun c_2 => ?_) (fun q9 => absurd (show (0 : Int32) ≤ (0 : Int32) from (by decide)) (show ¬ ((0 : Int32) ≤ (0 : Int32)) from q9))
  refine lv_iinc (v := 1) (lv' := [(2, .int 1), (3, .int 0), (1, .int 0), (0, .ref (o 0))]) hx hb dX6_spread_52 hl (k := 1) rfl rfl (by decide) rfl (fun ls hl => ?_)
  refine lv_goto (tgt := 4) hx hb dX6_spread_55 (by decide) ?_
  refine lv_iload_n hx hb dX6_spread_4 rfl (lv_at hl 0 rfl) ?_
  refine lv_iconst (v := 4) hx hb dX6_spread_5 (by decide) ?_
  refine lv_icmp_ge (tgt := 58) hx hb dX6_spread_6 (by decide) (fun q9 => absurd q9 (show ¬ (4 : Int32) ≤ (1 : Int32) from (by decide))) (fun c_3 => ?_)
  refine lv_iconst (v := 0) hx hb dX6_spread_9 (by decide) ?_
  refine lv_istore_n (lv' := [(3, .int 0), (2, .int 1), (1, .int 0), (0, .ref (o 0))]) hx hb dX6_spread_10 rfl hl (by decide) rfl (fun ls hl => ?_)
  have LS_5 : ∀ mo : Int32, (mxM (distM ((mZ r) 29) ((mZ r) 22)) mo) = spM (mZ r) → ∀ (ls : Array Slot) (H : Heap) (locs : List Loc), va_P g.1 vwCl (MW g o r) H → va_D A (MW g o r) → va_S A s.heap H locs → lv_has ls 5 [(3, .int 2), (2, .int 3), (1, .int mo), (0, .ref (o 0))] → W p l e (rmD 1) s m args below meth c H locs 0 0 (MQ below (QI g A (spM (mZ r)) (MW g o r)) args s 0 0 A) (F0 m 11 ls []) := by
    intro mo ht ls H locs hP hD hS hl
    refine lv_iload_n hx hb dX6_spread_11 rfl (lv_at hl 0 rfl) ?_
    refine lv_iload_n hx hb dX6_spread_12 rfl (lv_at hl 1 rfl) ?_
    refine lv_icmp_ge (tgt := 52) hx hb dX6_spread_13 (by decide) (fun q9 => absurd q9 (show ¬ (3 : Int32) ≤ (2 : Int32) from (by decide))) (fun c_4 => ?_)
    refine lv_aload_n hx hb dX6_spread_16 rfl (lv_at hl 3 rfl) ?_
    refine lv_iload_n hx hb dX6_spread_17 rfl (lv_at hl 1 rfl) ?_
    refine lv_iconst (v := 0) hx hb dX6_spread_18 (by decide) ?_
    refine x_goI (wn := MW g o r) (x_rV (As := [.int 3, .int 0]) X (c_X6_of l g o r 3 0 (by decide) (by decide)  _) yf_X6_of yi_X6_of wM_X6_56 ⟨Nat.le_of_ble_eq_true rfl, Nat.le_of_ble_eq_true rfl⟩ hP hD (p_all _) 0 rfl rfl hl rfl rfl (Nat.le_of_ble_eq_true rfl) dX6_spread_19 ⟨Nat.zero_le _, Nat.zero_le _⟩) hP hD hS hA (p_all _) (p_back _) (fun H locs hP hD hS => ?_)
    refine lv_aload_n hx hb dX6_spread_22 rfl (lv_at hl 3 rfl) ?_
    refine lv_iload_n hx hb dX6_spread_23 rfl (lv_at hl 0 rfl) ?_
    refine lv_iconst (v := 0) hx hb dX6_spread_24 (by decide) ?_
    refine x_goI (wn := MW g o r) (x_rV (As := [.int 2, .int 0]) X (c_X6_of l g o r 2 0 (by decide) (by decide)  _) yf_X6_of yi_X6_of wM_X6_56 ⟨Nat.le_of_ble_eq_true rfl, Nat.le_of_ble_eq_true rfl⟩ hP hD (p_all _) 0 rfl rfl hl rfl rfl (Nat.le_of_ble_eq_true rfl) dX6_spread_25 ⟨Nat.zero_le _, Nat.zero_le _⟩) hP hD hS hA (p_all _) (p_back _) (fun H locs hP hD hS => ?_)
    refine x_goI (wn := MW g o r) (x_rS (As := [.int ((mZ r) 29), .int ((mZ r) 22)]) X (c_X6_distance l g ((mZ r) 29) ((mZ r) 22) _) yf_X6_distance ys_X6_distance wM_X6_64 ⟨Nat.le_of_ble_eq_true rfl, Nat.le_of_ble_eq_true rfl⟩ hP hD (p_none _) hl rfl rfl (Nat.le_of_ble_eq_true rfl) dX6_spread_28 ⟨Nat.zero_le _, Nat.zero_le _⟩) hP hD hS hA (p_none _) (p_noneB _) (fun H locs hP hD hS => ?_)
    refine lv_istore (lv' := [(4, .int (distM ((mZ r) 29) ((mZ r) 22))), (3, .int 2), (2, .int 3), (1, .int mo), (0, .ref (o 0))]) hx hb dX6_spread_31 hl (by decide) rfl (fun ls hl => ?_)
    refine lv_iload hx hb dX6_spread_33 (lv_at hl 0 rfl) ?_
    refine lv_iload_n hx hb dX6_spread_35 rfl (lv_at hl 3 rfl) ?_
    refine lv_icmp_le (tgt := 44) hx hb dX6_spread_36 (by decide) (fun (c_5 : (distM ((mZ r) 29) ((mZ r) 22)) ≤ mo) => ?_) (fun (c_5 : ¬ (distM ((mZ r) 29) ((mZ r) 22)) ≤ mo) => ?_)
    · refine lv_iload_n hx hb dX6_spread_44 rfl (lv_at hl 3 rfl) ?_
      refine lv_istore_n (lv' := [(1, .int mo), (4, .int (distM ((mZ r) 29) ((mZ r) 22))), (3, .int 2), (2, .int 3), (0, .ref (o 0))]) hx hb dX6_spread_45 rfl hl (by decide) rfl (fun ls hl => ?_)
      refine lv_iinc (v := 3) (lv' := [(3, .int 3), (1, .int mo), (4, .int (distM ((mZ r) 29) ((mZ r) 22))), (2, .int 3), (0, .ref (o 0))]) hx hb dX6_spread_46 hl (k := 2) rfl rfl (by decide) rfl (fun ls hl => ?_)
      refine lv_goto (tgt := 11) hx hb dX6_spread_49 (by decide) ?_
      refine lv_iload_n hx hb dX6_spread_11 rfl (lv_at hl 0 rfl) ?_
      refine lv_iload_n hx hb dX6_spread_12 rfl (lv_at hl 3 rfl) ?_
      refine lv_icmp_ge (tgt := 52) hx hb dX6_spread_13 (by decide) (fun c_6 => ?_) (fun q9 => absurd (show (3 : Int32) ≤ (3 : Int32) from (by decide)) (show ¬ ((3 : Int32) ≤ (3 : Int32)) from q9))
      refine lv_iinc (v := 4) (lv' := [(2, .int 4), (3, .int 3), (1, .int mo), (4, .int (distM ((mZ r) 29) ((mZ r) 22))), (0, .ref (o 0))]) hx hb dX6_spread_52 hl (k := 3) rfl rfl (by decide) rfl (fun ls hl => ?_)
      refine lv_goto (tgt := 4) hx hb dX6_spread_55 (by decide) ?_
      refine lv_iload_n hx hb dX6_spread_4 rfl (lv_at hl 0 rfl) ?_
      refine lv_iconst (v := 4) hx hb dX6_spread_5 (by decide) ?_
      refine lv_icmp_ge (tgt := 58) hx hb dX6_spread_6 (by decide) (fun c_7 => ?_) (fun q9 => absurd (show (4 : Int32) ≤ (4 : Int32) from (by decide)) (show ¬ ((4 : Int32) ≤ (4 : Int32)) from q9))
      refine lv_iload_n hx hb dX6_spread_58 rfl (lv_at hl 2 rfl) ?_
      exact x_iret X hr hlocks hP hD hS (by rw [← ht]; exact (if_pos c_5).symm) dX6_spread_59
    · refine lv_iload hx hb dX6_spread_39 (lv_at hl 0 rfl) ?_
      refine lv_goto (tgt := 45) hx hb dX6_spread_41 (by decide) ?_
      refine lv_istore_n (lv' := [(1, .int (distM ((mZ r) 29) ((mZ r) 22))), (4, .int (distM ((mZ r) 29) ((mZ r) 22))), (3, .int 2), (2, .int 3), (0, .ref (o 0))]) hx hb dX6_spread_45 rfl hl (by decide) rfl (fun ls hl => ?_)
      refine lv_iinc (v := 3) (lv' := [(3, .int 3), (1, .int (distM ((mZ r) 29) ((mZ r) 22))), (4, .int (distM ((mZ r) 29) ((mZ r) 22))), (2, .int 3), (0, .ref (o 0))]) hx hb dX6_spread_46 hl (k := 2) rfl rfl (by decide) rfl (fun ls hl => ?_)
      refine lv_goto (tgt := 11) hx hb dX6_spread_49 (by decide) ?_
      refine lv_iload_n hx hb dX6_spread_11 rfl (lv_at hl 0 rfl) ?_
      refine lv_iload_n hx hb dX6_spread_12 rfl (lv_at hl 3 rfl) ?_
      refine lv_icmp_ge (tgt := 52) hx hb dX6_spread_13 (by decide) (fun c_8 => ?_) (fun q9 => absurd (show (3 : Int32) ≤ (3 : Int32) from (by decide)) (show ¬ ((3 : Int32) ≤ (3 : Int32)) from q9))
      refine lv_iinc (v := 4) (lv' := [(2, .int 4), (3, .int 3), (1, .int (distM ((mZ r) 29) ((mZ r) 22))), (4, .int (distM ((mZ r) 29) ((mZ r) 22))), (0, .ref (o 0))]) hx hb dX6_spread_52 hl (k := 3) rfl rfl (by decide) rfl (fun ls hl => ?_)
      refine lv_goto (tgt := 4) hx hb dX6_spread_55 (by decide) ?_
      refine lv_iload_n hx hb dX6_spread_4 rfl (lv_at hl 0 rfl) ?_
      refine lv_iconst (v := 4) hx hb dX6_spread_5 (by decide) ?_
      refine lv_icmp_ge (tgt := 58) hx hb dX6_spread_6 (by decide) (fun c_9 => ?_) (fun q9 => absurd (show (4 : Int32) ≤ (4 : Int32) from (by decide)) (show ¬ ((4 : Int32) ≤ (4 : Int32)) from q9))
      refine lv_iload_n hx hb dX6_spread_58 rfl (lv_at hl 2 rfl) ?_
      exact x_iret X hr hlocks hP hD hS (by rw [← ht]; exact (if_neg c_5).symm) dX6_spread_59
  have LS_4 : ∀ mo : Int32, (mxM (distM ((mZ r) 29) ((mZ r) 22)) (mxM (distM ((mZ r) 29) ((mZ r) 15)) mo)) = spM (mZ r) → ∀ (ls : Array Slot) (H : Heap) (locs : List Loc), va_P g.1 vwCl (MW g o r) H → va_D A (MW g o r) → va_S A s.heap H locs → lv_has ls 5 [(3, .int 1), (2, .int 3), (1, .int mo), (0, .ref (o 0))] → W p l e (rmD 1) s m args below meth c H locs 0 0 (MQ below (QI g A (spM (mZ r)) (MW g o r)) args s 0 0 A) (F0 m 11 ls []) := by
    intro mo ht ls H locs hP hD hS hl
    refine lv_iload_n hx hb dX6_spread_11 rfl (lv_at hl 0 rfl) ?_
    refine lv_iload_n hx hb dX6_spread_12 rfl (lv_at hl 1 rfl) ?_
    refine lv_icmp_ge (tgt := 52) hx hb dX6_spread_13 (by decide) (fun q9 => absurd q9 (show ¬ (3 : Int32) ≤ (1 : Int32) from (by decide))) (fun c_10 => ?_)
    refine lv_aload_n hx hb dX6_spread_16 rfl (lv_at hl 3 rfl) ?_
    refine lv_iload_n hx hb dX6_spread_17 rfl (lv_at hl 1 rfl) ?_
    refine lv_iconst (v := 0) hx hb dX6_spread_18 (by decide) ?_
    refine x_goI (wn := MW g o r) (x_rV (As := [.int 3, .int 0]) X (c_X6_of l g o r 3 0 (by decide) (by decide)  _) yf_X6_of yi_X6_of wM_X6_56 ⟨Nat.le_of_ble_eq_true rfl, Nat.le_of_ble_eq_true rfl⟩ hP hD (p_all _) 0 rfl rfl hl rfl rfl (Nat.le_of_ble_eq_true rfl) dX6_spread_19 ⟨Nat.zero_le _, Nat.zero_le _⟩) hP hD hS hA (p_all _) (p_back _) (fun H locs hP hD hS => ?_)
    refine lv_aload_n hx hb dX6_spread_22 rfl (lv_at hl 3 rfl) ?_
    refine lv_iload_n hx hb dX6_spread_23 rfl (lv_at hl 0 rfl) ?_
    refine lv_iconst (v := 0) hx hb dX6_spread_24 (by decide) ?_
    refine x_goI (wn := MW g o r) (x_rV (As := [.int 1, .int 0]) X (c_X6_of l g o r 1 0 (by decide) (by decide)  _) yf_X6_of yi_X6_of wM_X6_56 ⟨Nat.le_of_ble_eq_true rfl, Nat.le_of_ble_eq_true rfl⟩ hP hD (p_all _) 0 rfl rfl hl rfl rfl (Nat.le_of_ble_eq_true rfl) dX6_spread_25 ⟨Nat.zero_le _, Nat.zero_le _⟩) hP hD hS hA (p_all _) (p_back _) (fun H locs hP hD hS => ?_)
    refine x_goI (wn := MW g o r) (x_rS (As := [.int ((mZ r) 29), .int ((mZ r) 15)]) X (c_X6_distance l g ((mZ r) 29) ((mZ r) 15) _) yf_X6_distance ys_X6_distance wM_X6_64 ⟨Nat.le_of_ble_eq_true rfl, Nat.le_of_ble_eq_true rfl⟩ hP hD (p_none _) hl rfl rfl (Nat.le_of_ble_eq_true rfl) dX6_spread_28 ⟨Nat.zero_le _, Nat.zero_le _⟩) hP hD hS hA (p_none _) (p_noneB _) (fun H locs hP hD hS => ?_)
    refine lv_istore (lv' := [(4, .int (distM ((mZ r) 29) ((mZ r) 15))), (3, .int 1), (2, .int 3), (1, .int mo), (0, .ref (o 0))]) hx hb dX6_spread_31 hl (by decide) rfl (fun ls hl => ?_)
    refine lv_iload hx hb dX6_spread_33 (lv_at hl 0 rfl) ?_
    refine lv_iload_n hx hb dX6_spread_35 rfl (lv_at hl 3 rfl) ?_
    refine lv_icmp_le (tgt := 44) hx hb dX6_spread_36 (by decide) (fun (c_11 : (distM ((mZ r) 29) ((mZ r) 15)) ≤ mo) => ?_) (fun (c_11 : ¬ (distM ((mZ r) 29) ((mZ r) 15)) ≤ mo) => ?_)
    · refine lv_iload_n hx hb dX6_spread_44 rfl (lv_at hl 3 rfl) ?_
      refine lv_istore_n (lv' := [(1, .int mo), (4, .int (distM ((mZ r) 29) ((mZ r) 15))), (3, .int 1), (2, .int 3), (0, .ref (o 0))]) hx hb dX6_spread_45 rfl hl (by decide) rfl (fun ls hl => ?_)
      refine lv_iinc (v := 2) (lv' := [(3, .int 2), (1, .int mo), (4, .int (distM ((mZ r) 29) ((mZ r) 15))), (2, .int 3), (0, .ref (o 0))]) hx hb dX6_spread_46 hl (k := 2) rfl rfl (by decide) rfl (fun ls hl => ?_)
      refine lv_goto (tgt := 11) hx hb dX6_spread_49 (by decide) ?_
      exact LS_5 mo (by rw [← ht, show mxM (distM ((mZ r) 29) ((mZ r) 15)) mo = mo from if_pos c_11]) ls _ _ hP hD hS (lv_sub hl [0, 3, 1, 4] rfl)
    · refine lv_iload hx hb dX6_spread_39 (lv_at hl 0 rfl) ?_
      refine lv_goto (tgt := 45) hx hb dX6_spread_41 (by decide) ?_
      refine lv_istore_n (lv' := [(1, .int (distM ((mZ r) 29) ((mZ r) 15))), (4, .int (distM ((mZ r) 29) ((mZ r) 15))), (3, .int 1), (2, .int 3), (0, .ref (o 0))]) hx hb dX6_spread_45 rfl hl (by decide) rfl (fun ls hl => ?_)
      refine lv_iinc (v := 2) (lv' := [(3, .int 2), (1, .int (distM ((mZ r) 29) ((mZ r) 15))), (4, .int (distM ((mZ r) 29) ((mZ r) 15))), (2, .int 3), (0, .ref (o 0))]) hx hb dX6_spread_46 hl (k := 2) rfl rfl (by decide) rfl (fun ls hl => ?_)
      refine lv_goto (tgt := 11) hx hb dX6_spread_49 (by decide) ?_
      exact LS_5 (distM ((mZ r) 29) ((mZ r) 15)) (by rw [← ht, show mxM (distM ((mZ r) 29) ((mZ r) 15)) mo = (distM ((mZ r) 29) ((mZ r) 15)) from if_neg c_11]) ls _ _ hP hD hS (lv_sub hl [0, 3, 1, 4] rfl)
  have LS_3 : ∀ mo : Int32, (mxM (distM ((mZ r) 29) ((mZ r) 22)) (mxM (distM ((mZ r) 29) ((mZ r) 15)) (mxM (distM ((mZ r) 29) ((mZ r) 8)) mo))) = spM (mZ r) → ∀ (ls : Array Slot) (H : Heap) (locs : List Loc), va_P g.1 vwCl (MW g o r) H → va_D A (MW g o r) → va_S A s.heap H locs → lv_has ls 5 [(3, .int 0), (2, .int 3), (1, .int mo), (0, .ref (o 0))] → W p l e (rmD 1) s m args below meth c H locs 0 0 (MQ below (QI g A (spM (mZ r)) (MW g o r)) args s 0 0 A) (F0 m 11 ls []) := by
    intro mo ht ls H locs hP hD hS hl
    refine lv_iload_n hx hb dX6_spread_11 rfl (lv_at hl 0 rfl) ?_
    refine lv_iload_n hx hb dX6_spread_12 rfl (lv_at hl 1 rfl) ?_
    refine lv_icmp_ge (tgt := 52) hx hb dX6_spread_13 (by decide) (fun q9 => absurd q9 (show ¬ (3 : Int32) ≤ (0 : Int32) from (by decide))) (fun c_12 => ?_)
    refine lv_aload_n hx hb dX6_spread_16 rfl (lv_at hl 3 rfl) ?_
    refine lv_iload_n hx hb dX6_spread_17 rfl (lv_at hl 1 rfl) ?_
    refine lv_iconst (v := 0) hx hb dX6_spread_18 (by decide) ?_
    refine x_goI (wn := MW g o r) (x_rV (As := [.int 3, .int 0]) X (c_X6_of l g o r 3 0 (by decide) (by decide)  _) yf_X6_of yi_X6_of wM_X6_56 ⟨Nat.le_of_ble_eq_true rfl, Nat.le_of_ble_eq_true rfl⟩ hP hD (p_all _) 0 rfl rfl hl rfl rfl (Nat.le_of_ble_eq_true rfl) dX6_spread_19 ⟨Nat.zero_le _, Nat.zero_le _⟩) hP hD hS hA (p_all _) (p_back _) (fun H locs hP hD hS => ?_)
    refine lv_aload_n hx hb dX6_spread_22 rfl (lv_at hl 3 rfl) ?_
    refine lv_iload_n hx hb dX6_spread_23 rfl (lv_at hl 0 rfl) ?_
    refine lv_iconst (v := 0) hx hb dX6_spread_24 (by decide) ?_
    refine x_goI (wn := MW g o r) (x_rV (As := [.int 0, .int 0]) X (c_X6_of l g o r 0 0 (by decide) (by decide)  _) yf_X6_of yi_X6_of wM_X6_56 ⟨Nat.le_of_ble_eq_true rfl, Nat.le_of_ble_eq_true rfl⟩ hP hD (p_all _) 0 rfl rfl hl rfl rfl (Nat.le_of_ble_eq_true rfl) dX6_spread_25 ⟨Nat.zero_le _, Nat.zero_le _⟩) hP hD hS hA (p_all _) (p_back _) (fun H locs hP hD hS => ?_)
    refine x_goI (wn := MW g o r) (x_rS (As := [.int ((mZ r) 29), .int ((mZ r) 8)]) X (c_X6_distance l g ((mZ r) 29) ((mZ r) 8) _) yf_X6_distance ys_X6_distance wM_X6_64 ⟨Nat.le_of_ble_eq_true rfl, Nat.le_of_ble_eq_true rfl⟩ hP hD (p_none _) hl rfl rfl (Nat.le_of_ble_eq_true rfl) dX6_spread_28 ⟨Nat.zero_le _, Nat.zero_le _⟩) hP hD hS hA (p_none _) (p_noneB _) (fun H locs hP hD hS => ?_)
    refine lv_istore (lv' := [(4, .int (distM ((mZ r) 29) ((mZ r) 8))), (3, .int 0), (2, .int 3), (1, .int mo), (0, .ref (o 0))]) hx hb dX6_spread_31 hl (by decide) rfl (fun ls hl => ?_)
    refine lv_iload hx hb dX6_spread_33 (lv_at hl 0 rfl) ?_
    refine lv_iload_n hx hb dX6_spread_35 rfl (lv_at hl 3 rfl) ?_
    refine lv_icmp_le (tgt := 44) hx hb dX6_spread_36 (by decide) (fun (c_13 : (distM ((mZ r) 29) ((mZ r) 8)) ≤ mo) => ?_) (fun (c_13 : ¬ (distM ((mZ r) 29) ((mZ r) 8)) ≤ mo) => ?_)
    · refine lv_iload_n hx hb dX6_spread_44 rfl (lv_at hl 3 rfl) ?_
      refine lv_istore_n (lv' := [(1, .int mo), (4, .int (distM ((mZ r) 29) ((mZ r) 8))), (3, .int 0), (2, .int 3), (0, .ref (o 0))]) hx hb dX6_spread_45 rfl hl (by decide) rfl (fun ls hl => ?_)
      refine lv_iinc (v := 1) (lv' := [(3, .int 1), (1, .int mo), (4, .int (distM ((mZ r) 29) ((mZ r) 8))), (2, .int 3), (0, .ref (o 0))]) hx hb dX6_spread_46 hl (k := 2) rfl rfl (by decide) rfl (fun ls hl => ?_)
      refine lv_goto (tgt := 11) hx hb dX6_spread_49 (by decide) ?_
      exact LS_4 mo (by rw [← ht, show mxM (distM ((mZ r) 29) ((mZ r) 8)) mo = mo from if_pos c_13]) ls _ _ hP hD hS (lv_sub hl [0, 3, 1, 4] rfl)
    · refine lv_iload hx hb dX6_spread_39 (lv_at hl 0 rfl) ?_
      refine lv_goto (tgt := 45) hx hb dX6_spread_41 (by decide) ?_
      refine lv_istore_n (lv' := [(1, .int (distM ((mZ r) 29) ((mZ r) 8))), (4, .int (distM ((mZ r) 29) ((mZ r) 8))), (3, .int 0), (2, .int 3), (0, .ref (o 0))]) hx hb dX6_spread_45 rfl hl (by decide) rfl (fun ls hl => ?_)
      refine lv_iinc (v := 1) (lv' := [(3, .int 1), (1, .int (distM ((mZ r) 29) ((mZ r) 8))), (4, .int (distM ((mZ r) 29) ((mZ r) 8))), (2, .int 3), (0, .ref (o 0))]) hx hb dX6_spread_46 hl (k := 2) rfl rfl (by decide) rfl (fun ls hl => ?_)
      refine lv_goto (tgt := 11) hx hb dX6_spread_49 (by decide) ?_
      exact LS_4 (distM ((mZ r) 29) ((mZ r) 8)) (by rw [← ht, show mxM (distM ((mZ r) 29) ((mZ r) 8)) mo = (distM ((mZ r) 29) ((mZ r) 8)) from if_neg c_13]) ls _ _ hP hD hS (lv_sub hl [0, 3, 1, 4] rfl)
  have LS_2 : ∀ mo : Int32, (mxM (distM ((mZ r) 29) ((mZ r) 22)) (mxM (distM ((mZ r) 29) ((mZ r) 15)) (mxM (distM ((mZ r) 29) ((mZ r) 8)) (mxM (distM ((mZ r) 22) ((mZ r) 15)) mo)))) = spM (mZ r) → ∀ (ls : Array Slot) (H : Heap) (locs : List Loc), va_P g.1 vwCl (MW g o r) H → va_D A (MW g o r) → va_S A s.heap H locs → lv_has ls 5 [(3, .int 1), (2, .int 2), (1, .int mo), (0, .ref (o 0))] → W p l e (rmD 1) s m args below meth c H locs 0 0 (MQ below (QI g A (spM (mZ r)) (MW g o r)) args s 0 0 A) (F0 m 11 ls []) := by
    intro mo ht ls H locs hP hD hS hl
    refine lv_iload_n hx hb dX6_spread_11 rfl (lv_at hl 0 rfl) ?_
    refine lv_iload_n hx hb dX6_spread_12 rfl (lv_at hl 1 rfl) ?_
    refine lv_icmp_ge (tgt := 52) hx hb dX6_spread_13 (by decide) (fun q9 => absurd q9 (show ¬ (2 : Int32) ≤ (1 : Int32) from (by decide))) (fun c_14 => ?_)
    refine lv_aload_n hx hb dX6_spread_16 rfl (lv_at hl 3 rfl) ?_
    refine lv_iload_n hx hb dX6_spread_17 rfl (lv_at hl 1 rfl) ?_
    refine lv_iconst (v := 0) hx hb dX6_spread_18 (by decide) ?_
    refine x_goI (wn := MW g o r) (x_rV (As := [.int 2, .int 0]) X (c_X6_of l g o r 2 0 (by decide) (by decide)  _) yf_X6_of yi_X6_of wM_X6_56 ⟨Nat.le_of_ble_eq_true rfl, Nat.le_of_ble_eq_true rfl⟩ hP hD (p_all _) 0 rfl rfl hl rfl rfl (Nat.le_of_ble_eq_true rfl) dX6_spread_19 ⟨Nat.zero_le _, Nat.zero_le _⟩) hP hD hS hA (p_all _) (p_back _) (fun H locs hP hD hS => ?_)
    refine lv_aload_n hx hb dX6_spread_22 rfl (lv_at hl 3 rfl) ?_
    refine lv_iload_n hx hb dX6_spread_23 rfl (lv_at hl 0 rfl) ?_
    refine lv_iconst (v := 0) hx hb dX6_spread_24 (by decide) ?_
    refine x_goI (wn := MW g o r) (x_rV (As := [.int 1, .int 0]) X (c_X6_of l g o r 1 0 (by decide) (by decide)  _) yf_X6_of yi_X6_of wM_X6_56 ⟨Nat.le_of_ble_eq_true rfl, Nat.le_of_ble_eq_true rfl⟩ hP hD (p_all _) 0 rfl rfl hl rfl rfl (Nat.le_of_ble_eq_true rfl) dX6_spread_25 ⟨Nat.zero_le _, Nat.zero_le _⟩) hP hD hS hA (p_all _) (p_back _) (fun H locs hP hD hS => ?_)
    refine x_goI (wn := MW g o r) (x_rS (As := [.int ((mZ r) 22), .int ((mZ r) 15)]) X (c_X6_distance l g ((mZ r) 22) ((mZ r) 15) _) yf_X6_distance ys_X6_distance wM_X6_64 ⟨Nat.le_of_ble_eq_true rfl, Nat.le_of_ble_eq_true rfl⟩ hP hD (p_none _) hl rfl rfl (Nat.le_of_ble_eq_true rfl) dX6_spread_28 ⟨Nat.zero_le _, Nat.zero_le _⟩) hP hD hS hA (p_none _) (p_noneB _) (fun H locs hP hD hS => ?_)
    refine lv_istore (lv' := [(4, .int (distM ((mZ r) 22) ((mZ r) 15))), (3, .int 1), (2, .int 2), (1, .int mo), (0, .ref (o 0))]) hx hb dX6_spread_31 hl (by decide) rfl (fun ls hl => ?_)
    refine lv_iload hx hb dX6_spread_33 (lv_at hl 0 rfl) ?_
    refine lv_iload_n hx hb dX6_spread_35 rfl (lv_at hl 3 rfl) ?_
    refine lv_icmp_le (tgt := 44) hx hb dX6_spread_36 (by decide) (fun (c_15 : (distM ((mZ r) 22) ((mZ r) 15)) ≤ mo) => ?_) (fun (c_15 : ¬ (distM ((mZ r) 22) ((mZ r) 15)) ≤ mo) => ?_)
    · refine lv_iload_n hx hb dX6_spread_44 rfl (lv_at hl 3 rfl) ?_
      refine lv_istore_n (lv' := [(1, .int mo), (4, .int (distM ((mZ r) 22) ((mZ r) 15))), (3, .int 1), (2, .int 2), (0, .ref (o 0))]) hx hb dX6_spread_45 rfl hl (by decide) rfl (fun ls hl => ?_)
      refine lv_iinc (v := 2) (lv' := [(3, .int 2), (1, .int mo), (4, .int (distM ((mZ r) 22) ((mZ r) 15))), (2, .int 2), (0, .ref (o 0))]) hx hb dX6_spread_46 hl (k := 2) rfl rfl (by decide) rfl (fun ls hl => ?_)
      refine lv_goto (tgt := 11) hx hb dX6_spread_49 (by decide) ?_
      refine lv_iload_n hx hb dX6_spread_11 rfl (lv_at hl 0 rfl) ?_
      refine lv_iload_n hx hb dX6_spread_12 rfl (lv_at hl 3 rfl) ?_
      refine lv_icmp_ge (tgt := 52) hx hb dX6_spread_13 (by decide) (fun c_16 => ?_) (fun q9 => absurd (show (2 : Int32) ≤ (2 : Int32) from (by decide)) (show ¬ ((2 : Int32) ≤ (2 : Int32)) from q9))
      refine lv_iinc (v := 3) (lv' := [(2, .int 3), (3, .int 2), (1, .int mo), (4, .int (distM ((mZ r) 22) ((mZ r) 15))), (0, .ref (o 0))]) hx hb dX6_spread_52 hl (k := 3) rfl rfl (by decide) rfl (fun ls hl => ?_)
      refine lv_goto (tgt := 4) hx hb dX6_spread_55 (by decide) ?_
      refine lv_iload_n hx hb dX6_spread_4 rfl (lv_at hl 0 rfl) ?_
      refine lv_iconst (v := 4) hx hb dX6_spread_5 (by decide) ?_
      refine lv_icmp_ge (tgt := 58) hx hb dX6_spread_6 (by decide) (fun q9 => absurd q9 (show ¬ (4 : Int32) ≤ (3 : Int32) from (by decide))) (fun c_17 => ?_)
      refine lv_iconst (v := 0) hx hb dX6_spread_9 (by decide) ?_
      refine lv_istore_n (lv' := [(3, .int 0), (2, .int 3), (1, .int mo), (4, .int (distM ((mZ r) 22) ((mZ r) 15))), (0, .ref (o 0))]) hx hb dX6_spread_10 rfl hl (by decide) rfl (fun ls hl => ?_)
      exact LS_3 mo (by rw [← ht, show mxM (distM ((mZ r) 22) ((mZ r) 15)) mo = mo from if_pos c_15]) ls _ _ hP hD hS (lv_sub hl [0, 1, 2, 4] rfl)
    · refine lv_iload hx hb dX6_spread_39 (lv_at hl 0 rfl) ?_
      refine lv_goto (tgt := 45) hx hb dX6_spread_41 (by decide) ?_
      refine lv_istore_n (lv' := [(1, .int (distM ((mZ r) 22) ((mZ r) 15))), (4, .int (distM ((mZ r) 22) ((mZ r) 15))), (3, .int 1), (2, .int 2), (0, .ref (o 0))]) hx hb dX6_spread_45 rfl hl (by decide) rfl (fun ls hl => ?_)
      refine lv_iinc (v := 2) (lv' := [(3, .int 2), (1, .int (distM ((mZ r) 22) ((mZ r) 15))), (4, .int (distM ((mZ r) 22) ((mZ r) 15))), (2, .int 2), (0, .ref (o 0))]) hx hb dX6_spread_46 hl (k := 2) rfl rfl (by decide) rfl (fun ls hl => ?_)
      refine lv_goto (tgt := 11) hx hb dX6_spread_49 (by decide) ?_
      refine lv_iload_n hx hb dX6_spread_11 rfl (lv_at hl 0 rfl) ?_
      refine lv_iload_n hx hb dX6_spread_12 rfl (lv_at hl 3 rfl) ?_
      refine lv_icmp_ge (tgt := 52) hx hb dX6_spread_13 (by decide) (fun c_18 => ?_) (fun q9 => absurd (show (2 : Int32) ≤ (2 : Int32) from (by decide)) (show ¬ ((2 : Int32) ≤ (2 : Int32)) from q9))
      refine lv_iinc (v := 3) (lv' := [(2, .int 3), (3, .int 2), (1, .int (distM ((mZ r) 22) ((mZ r) 15))), (4, .int (distM ((mZ r) 22) ((mZ r) 15))), (0, .ref (o 0))]) hx hb dX6_spread_52 hl (k := 3) rfl rfl (by decide) rfl (fun ls hl => ?_)
      refine lv_goto (tgt := 4) hx hb dX6_spread_55 (by decide) ?_
      refine lv_iload_n hx hb dX6_spread_4 rfl (lv_at hl 0 rfl) ?_
      refine lv_iconst (v := 4) hx hb dX6_spread_5 (by decide) ?_
      refine lv_icmp_ge (tgt := 58) hx hb dX6_spread_6 (by decide) (fun q9 => absurd q9 (show ¬ (4 : Int32) ≤ (3 : Int32) from (by decide))) (fun c_19 => ?_)
      refine lv_iconst (v := 0) hx hb dX6_spread_9 (by decide) ?_
      refine lv_istore_n (lv' := [(3, .int 0), (2, .int 3), (1, .int (distM ((mZ r) 22) ((mZ r) 15))), (4, .int (distM ((mZ r) 22) ((mZ r) 15))), (0, .ref (o 0))]) hx hb dX6_spread_10 rfl hl (by decide) rfl (fun ls hl => ?_)
      exact LS_3 (distM ((mZ r) 22) ((mZ r) 15)) (by rw [← ht, show mxM (distM ((mZ r) 22) ((mZ r) 15)) mo = (distM ((mZ r) 22) ((mZ r) 15)) from if_neg c_15]) ls _ _ hP hD hS (lv_sub hl [0, 1, 2, 4] rfl)
  have LS_1 : ∀ mo : Int32, (mxM (distM ((mZ r) 29) ((mZ r) 22)) (mxM (distM ((mZ r) 29) ((mZ r) 15)) (mxM (distM ((mZ r) 29) ((mZ r) 8)) (mxM (distM ((mZ r) 22) ((mZ r) 15)) (mxM (distM ((mZ r) 22) ((mZ r) 8)) mo))))) = spM (mZ r) → ∀ (ls : Array Slot) (H : Heap) (locs : List Loc), va_P g.1 vwCl (MW g o r) H → va_D A (MW g o r) → va_S A s.heap H locs → lv_has ls 5 [(3, .int 0), (2, .int 2), (1, .int mo), (0, .ref (o 0))] → W p l e (rmD 1) s m args below meth c H locs 0 0 (MQ below (QI g A (spM (mZ r)) (MW g o r)) args s 0 0 A) (F0 m 11 ls []) := by
    intro mo ht ls H locs hP hD hS hl
    refine lv_iload_n hx hb dX6_spread_11 rfl (lv_at hl 0 rfl) ?_
    refine lv_iload_n hx hb dX6_spread_12 rfl (lv_at hl 1 rfl) ?_
    refine lv_icmp_ge (tgt := 52) hx hb dX6_spread_13 (by decide) (fun q9 => absurd q9 (show ¬ (2 : Int32) ≤ (0 : Int32) from (by decide))) (fun c_20 => ?_)
    refine lv_aload_n hx hb dX6_spread_16 rfl (lv_at hl 3 rfl) ?_
    refine lv_iload_n hx hb dX6_spread_17 rfl (lv_at hl 1 rfl) ?_
    refine lv_iconst (v := 0) hx hb dX6_spread_18 (by decide) ?_
    refine x_goI (wn := MW g o r) (x_rV (As := [.int 2, .int 0]) X (c_X6_of l g o r 2 0 (by decide) (by decide)  _) yf_X6_of yi_X6_of wM_X6_56 ⟨Nat.le_of_ble_eq_true rfl, Nat.le_of_ble_eq_true rfl⟩ hP hD (p_all _) 0 rfl rfl hl rfl rfl (Nat.le_of_ble_eq_true rfl) dX6_spread_19 ⟨Nat.zero_le _, Nat.zero_le _⟩) hP hD hS hA (p_all _) (p_back _) (fun H locs hP hD hS => ?_)
    refine lv_aload_n hx hb dX6_spread_22 rfl (lv_at hl 3 rfl) ?_
    refine lv_iload_n hx hb dX6_spread_23 rfl (lv_at hl 0 rfl) ?_
    refine lv_iconst (v := 0) hx hb dX6_spread_24 (by decide) ?_
    refine x_goI (wn := MW g o r) (x_rV (As := [.int 0, .int 0]) X (c_X6_of l g o r 0 0 (by decide) (by decide)  _) yf_X6_of yi_X6_of wM_X6_56 ⟨Nat.le_of_ble_eq_true rfl, Nat.le_of_ble_eq_true rfl⟩ hP hD (p_all _) 0 rfl rfl hl rfl rfl (Nat.le_of_ble_eq_true rfl) dX6_spread_25 ⟨Nat.zero_le _, Nat.zero_le _⟩) hP hD hS hA (p_all _) (p_back _) (fun H locs hP hD hS => ?_)
    refine x_goI (wn := MW g o r) (x_rS (As := [.int ((mZ r) 22), .int ((mZ r) 8)]) X (c_X6_distance l g ((mZ r) 22) ((mZ r) 8) _) yf_X6_distance ys_X6_distance wM_X6_64 ⟨Nat.le_of_ble_eq_true rfl, Nat.le_of_ble_eq_true rfl⟩ hP hD (p_none _) hl rfl rfl (Nat.le_of_ble_eq_true rfl) dX6_spread_28 ⟨Nat.zero_le _, Nat.zero_le _⟩) hP hD hS hA (p_none _) (p_noneB _) (fun H locs hP hD hS => ?_)
    refine lv_istore (lv' := [(4, .int (distM ((mZ r) 22) ((mZ r) 8))), (3, .int 0), (2, .int 2), (1, .int mo), (0, .ref (o 0))]) hx hb dX6_spread_31 hl (by decide) rfl (fun ls hl => ?_)
    refine lv_iload hx hb dX6_spread_33 (lv_at hl 0 rfl) ?_
    refine lv_iload_n hx hb dX6_spread_35 rfl (lv_at hl 3 rfl) ?_
    refine lv_icmp_le (tgt := 44) hx hb dX6_spread_36 (by decide) (fun (c_21 : (distM ((mZ r) 22) ((mZ r) 8)) ≤ mo) => ?_) (fun (c_21 : ¬ (distM ((mZ r) 22) ((mZ r) 8)) ≤ mo) => ?_)
    · refine lv_iload_n hx hb dX6_spread_44 rfl (lv_at hl 3 rfl) ?_
      refine lv_istore_n (lv' := [(1, .int mo), (4, .int (distM ((mZ r) 22) ((mZ r) 8))), (3, .int 0), (2, .int 2), (0, .ref (o 0))]) hx hb dX6_spread_45 rfl hl (by decide) rfl (fun ls hl => ?_)
      refine lv_iinc (v := 1) (lv' := [(3, .int 1), (1, .int mo), (4, .int (distM ((mZ r) 22) ((mZ r) 8))), (2, .int 2), (0, .ref (o 0))]) hx hb dX6_spread_46 hl (k := 2) rfl rfl (by decide) rfl (fun ls hl => ?_)
      refine lv_goto (tgt := 11) hx hb dX6_spread_49 (by decide) ?_
      exact LS_2 mo (by rw [← ht, show mxM (distM ((mZ r) 22) ((mZ r) 8)) mo = mo from if_pos c_21]) ls _ _ hP hD hS (lv_sub hl [0, 3, 1, 4] rfl)
    · refine lv_iload hx hb dX6_spread_39 (lv_at hl 0 rfl) ?_
      refine lv_goto (tgt := 45) hx hb dX6_spread_41 (by decide) ?_
      refine lv_istore_n (lv' := [(1, .int (distM ((mZ r) 22) ((mZ r) 8))), (4, .int (distM ((mZ r) 22) ((mZ r) 8))), (3, .int 0), (2, .int 2), (0, .ref (o 0))]) hx hb dX6_spread_45 rfl hl (by decide) rfl (fun ls hl => ?_)
      refine lv_iinc (v := 1) (lv' := [(3, .int 1), (1, .int (distM ((mZ r) 22) ((mZ r) 8))), (4, .int (distM ((mZ r) 22) ((mZ r) 8))), (2, .int 2), (0, .ref (o 0))]) hx hb dX6_spread_46 hl (k := 2) rfl rfl (by decide) rfl (fun ls hl => ?_)
      refine lv_goto (tgt := 11) hx hb dX6_spread_49 (by decide) ?_
      exact LS_2 (distM ((mZ r) 22) ((mZ r) 8)) (by rw [← ht, show mxM (distM ((mZ r) 22) ((mZ r) 8)) mo = (distM ((mZ r) 22) ((mZ r) 8)) from if_neg c_21]) ls _ _ hP hD hS (lv_sub hl [0, 3, 1, 4] rfl)
  have LS_0 : ∀ mo : Int32, (mxM (distM ((mZ r) 29) ((mZ r) 22)) (mxM (distM ((mZ r) 29) ((mZ r) 15)) (mxM (distM ((mZ r) 29) ((mZ r) 8)) (mxM (distM ((mZ r) 22) ((mZ r) 15)) (mxM (distM ((mZ r) 22) ((mZ r) 8)) (mxM (distM ((mZ r) 15) ((mZ r) 8)) mo)))))) = spM (mZ r) → ∀ (ls : Array Slot) (H : Heap) (locs : List Loc), va_P g.1 vwCl (MW g o r) H → va_D A (MW g o r) → va_S A s.heap H locs → lv_has ls 5 [(3, .int 0), (2, .int 1), (1, .int mo), (0, .ref (o 0))] → W p l e (rmD 1) s m args below meth c H locs 0 0 (MQ below (QI g A (spM (mZ r)) (MW g o r)) args s 0 0 A) (F0 m 11 ls []) := by
    intro mo ht ls H locs hP hD hS hl
    refine lv_iload_n hx hb dX6_spread_11 rfl (lv_at hl 0 rfl) ?_
    refine lv_iload_n hx hb dX6_spread_12 rfl (lv_at hl 1 rfl) ?_
    refine lv_icmp_ge (tgt := 52) hx hb dX6_spread_13 (by decide) (fun q9 => absurd q9 (show ¬ (1 : Int32) ≤ (0 : Int32) from (by decide))) (fun c_22 => ?_)
    refine lv_aload_n hx hb dX6_spread_16 rfl (lv_at hl 3 rfl) ?_
    refine lv_iload_n hx hb dX6_spread_17 rfl (lv_at hl 1 rfl) ?_
    refine lv_iconst (v := 0) hx hb dX6_spread_18 (by decide) ?_
    refine x_goI (wn := MW g o r) (x_rV (As := [.int 1, .int 0]) X (c_X6_of l g o r 1 0 (by decide) (by decide)  _) yf_X6_of yi_X6_of wM_X6_56 ⟨Nat.le_of_ble_eq_true rfl, Nat.le_of_ble_eq_true rfl⟩ hP hD (p_all _) 0 rfl rfl hl rfl rfl (Nat.le_of_ble_eq_true rfl) dX6_spread_19 ⟨Nat.zero_le _, Nat.zero_le _⟩) hP hD hS hA (p_all _) (p_back _) (fun H locs hP hD hS => ?_)
    refine lv_aload_n hx hb dX6_spread_22 rfl (lv_at hl 3 rfl) ?_
    refine lv_iload_n hx hb dX6_spread_23 rfl (lv_at hl 0 rfl) ?_
    refine lv_iconst (v := 0) hx hb dX6_spread_24 (by decide) ?_
    refine x_goI (wn := MW g o r) (x_rV (As := [.int 0, .int 0]) X (c_X6_of l g o r 0 0 (by decide) (by decide)  _) yf_X6_of yi_X6_of wM_X6_56 ⟨Nat.le_of_ble_eq_true rfl, Nat.le_of_ble_eq_true rfl⟩ hP hD (p_all _) 0 rfl rfl hl rfl rfl (Nat.le_of_ble_eq_true rfl) dX6_spread_25 ⟨Nat.zero_le _, Nat.zero_le _⟩) hP hD hS hA (p_all _) (p_back _) (fun H locs hP hD hS => ?_)
    refine x_goI (wn := MW g o r) (x_rS (As := [.int ((mZ r) 15), .int ((mZ r) 8)]) X (c_X6_distance l g ((mZ r) 15) ((mZ r) 8) _) yf_X6_distance ys_X6_distance wM_X6_64 ⟨Nat.le_of_ble_eq_true rfl, Nat.le_of_ble_eq_true rfl⟩ hP hD (p_none _) hl rfl rfl (Nat.le_of_ble_eq_true rfl) dX6_spread_28 ⟨Nat.zero_le _, Nat.zero_le _⟩) hP hD hS hA (p_none _) (p_noneB _) (fun H locs hP hD hS => ?_)
    refine lv_istore (lv' := [(4, .int (distM ((mZ r) 15) ((mZ r) 8))), (3, .int 0), (2, .int 1), (1, .int mo), (0, .ref (o 0))]) hx hb dX6_spread_31 hl (by decide) rfl (fun ls hl => ?_)
    refine lv_iload hx hb dX6_spread_33 (lv_at hl 0 rfl) ?_
    refine lv_iload_n hx hb dX6_spread_35 rfl (lv_at hl 3 rfl) ?_
    refine lv_icmp_le (tgt := 44) hx hb dX6_spread_36 (by decide) (fun (c_23 : (distM ((mZ r) 15) ((mZ r) 8)) ≤ mo) => ?_) (fun (c_23 : ¬ (distM ((mZ r) 15) ((mZ r) 8)) ≤ mo) => ?_)
    · refine lv_iload_n hx hb dX6_spread_44 rfl (lv_at hl 3 rfl) ?_
      refine lv_istore_n (lv' := [(1, .int mo), (4, .int (distM ((mZ r) 15) ((mZ r) 8))), (3, .int 0), (2, .int 1), (0, .ref (o 0))]) hx hb dX6_spread_45 rfl hl (by decide) rfl (fun ls hl => ?_)
      refine lv_iinc (v := 1) (lv' := [(3, .int 1), (1, .int mo), (4, .int (distM ((mZ r) 15) ((mZ r) 8))), (2, .int 1), (0, .ref (o 0))]) hx hb dX6_spread_46 hl (k := 2) rfl rfl (by decide) rfl (fun ls hl => ?_)
      refine lv_goto (tgt := 11) hx hb dX6_spread_49 (by decide) ?_
      refine lv_iload_n hx hb dX6_spread_11 rfl (lv_at hl 0 rfl) ?_
      refine lv_iload_n hx hb dX6_spread_12 rfl (lv_at hl 3 rfl) ?_
      refine lv_icmp_ge (tgt := 52) hx hb dX6_spread_13 (by decide) (fun c_24 => ?_) (fun q9 => absurd (show (1 : Int32) ≤ (1 : Int32) from (by decide)) (show ¬ ((1 : Int32) ≤ (1 : Int32)) from q9))
      refine lv_iinc (v := 2) (lv' := [(2, .int 2), (3, .int 1), (1, .int mo), (4, .int (distM ((mZ r) 15) ((mZ r) 8))), (0, .ref (o 0))]) hx hb dX6_spread_52 hl (k := 3) rfl rfl (by decide) rfl (fun ls hl => ?_)
      refine lv_goto (tgt := 4) hx hb dX6_spread_55 (by decide) ?_
      refine lv_iload_n hx hb dX6_spread_4 rfl (lv_at hl 0 rfl) ?_
      refine lv_iconst (v := 4) hx hb dX6_spread_5 (by decide) ?_
      refine lv_icmp_ge (tgt := 58) hx hb dX6_spread_6 (by decide) (fun q9 => absurd q9 (show ¬ (4 : Int32) ≤ (2 : Int32) from (by decide))) (fun c_25 => ?_)
      refine lv_iconst (v := 0) hx hb dX6_spread_9 (by decide) ?_
      refine lv_istore_n (lv' := [(3, .int 0), (2, .int 2), (1, .int mo), (4, .int (distM ((mZ r) 15) ((mZ r) 8))), (0, .ref (o 0))]) hx hb dX6_spread_10 rfl hl (by decide) rfl (fun ls hl => ?_)
      exact LS_1 mo (by rw [← ht, show mxM (distM ((mZ r) 15) ((mZ r) 8)) mo = mo from if_pos c_23]) ls _ _ hP hD hS (lv_sub hl [0, 1, 2, 4] rfl)
    · refine lv_iload hx hb dX6_spread_39 (lv_at hl 0 rfl) ?_
      refine lv_goto (tgt := 45) hx hb dX6_spread_41 (by decide) ?_
      refine lv_istore_n (lv' := [(1, .int (distM ((mZ r) 15) ((mZ r) 8))), (4, .int (distM ((mZ r) 15) ((mZ r) 8))), (3, .int 0), (2, .int 1), (0, .ref (o 0))]) hx hb dX6_spread_45 rfl hl (by decide) rfl (fun ls hl => ?_)
      refine lv_iinc (v := 1) (lv' := [(3, .int 1), (1, .int (distM ((mZ r) 15) ((mZ r) 8))), (4, .int (distM ((mZ r) 15) ((mZ r) 8))), (2, .int 1), (0, .ref (o 0))]) hx hb dX6_spread_46 hl (k := 2) rfl rfl (by decide) rfl (fun ls hl => ?_)
      refine lv_goto (tgt := 11) hx hb dX6_spread_49 (by decide) ?_
      refine lv_iload_n hx hb dX6_spread_11 rfl (lv_at hl 0 rfl) ?_
      refine lv_iload_n hx hb dX6_spread_12 rfl (lv_at hl 3 rfl) ?_
      refine lv_icmp_ge (tgt := 52) hx hb dX6_spread_13 (by decide) (fun c_26 => ?_) (fun q9 => absurd (show (1 : Int32) ≤ (1 : Int32) from (by decide)) (show ¬ ((1 : Int32) ≤ (1 : Int32)) from q9))
      refine lv_iinc (v := 2) (lv' := [(2, .int 2), (3, .int 1), (1, .int (distM ((mZ r) 15) ((mZ r) 8))), (4, .int (distM ((mZ r) 15) ((mZ r) 8))), (0, .ref (o 0))]) hx hb dX6_spread_52 hl (k := 3) rfl rfl (by decide) rfl (fun ls hl => ?_)
      refine lv_goto (tgt := 4) hx hb dX6_spread_55 (by decide) ?_
      refine lv_iload_n hx hb dX6_spread_4 rfl (lv_at hl 0 rfl) ?_
      refine lv_iconst (v := 4) hx hb dX6_spread_5 (by decide) ?_
      refine lv_icmp_ge (tgt := 58) hx hb dX6_spread_6 (by decide) (fun q9 => absurd q9 (show ¬ (4 : Int32) ≤ (2 : Int32) from (by decide))) (fun c_27 => ?_)
      refine lv_iconst (v := 0) hx hb dX6_spread_9 (by decide) ?_
      refine lv_istore_n (lv' := [(3, .int 0), (2, .int 2), (1, .int (distM ((mZ r) 15) ((mZ r) 8))), (4, .int (distM ((mZ r) 15) ((mZ r) 8))), (0, .ref (o 0))]) hx hb dX6_spread_10 rfl hl (by decide) rfl (fun ls hl => ?_)
      exact LS_1 (distM ((mZ r) 15) ((mZ r) 8)) (by rw [← ht, show mxM (distM ((mZ r) 15) ((mZ r) 8)) mo = (distM ((mZ r) 15) ((mZ r) 8)) from if_neg c_23]) ls _ _ hP hD hS (lv_sub hl [0, 1, 2, 4] rfl)
  exact LS_0 0 rfl ls _ _ hP hD hS (lv_sub hl [0, 1, 2, 3] rfl)

def cwM (z : RI) (x : Int32) : Nat → Nat → Int32 → Int32
  | 0, _, q => q
  | n + 1, o, q => if z o = x then cwM z x n (o + 7) (q + 1) else cwM z x n (o + 7) (q + 0)
def mjL (z : RI) : Nat → Nat → Int32 → Int32 → Int32
  | 0, _, b, _ => b
  | n + 1, o, b, m => if cwM z (z o) 4 8 0 ≤ m then mjL z n (o + 7) b m else mjL z n (o + 7) (z o) (cwM z (z o) 4 8 0)
set_option maxHeartbeats 4000000 in
set_option maxRecDepth 100000 in
theorem c_X6_majority (l : Launch) (g : wG) (o : Nat → Nat) (r : MS) : CtI l g 1 yX6_majority cX6_majority 6 (some .int) [.ref (o 0)] (MW g o r) (mjL (mZ r) 4 8 0 0) (MW g o r) := by
  intro sz
  refine x_enter (Qc := fun A => QI g A (mjL (mZ r) 4 8 0 0) (MW g o r)) (by decide) (Nat.le_of_ble_eq_true rfl) ?_
  intro p e s m args below meth c X hr hlocks A hA hP hD hS ls hl
  obtain ⟨⟨hx, hb, hml, hown, hts⟩, hK, hN⟩ := id X
  have hl : lv_has ls 6 [(0, .ref (o 0))] := hl
  refine lv_iconst (v := 0) hx hb dX6_majority_0 (by decide) ?_
  refine lv_istore_n (lv' := [(1, .int 0), (0, .ref (o 0))]) hx hb dX6_majority_1 rfl hl (by decide) rfl (fun ls hl => ?_)
  refine lv_iconst (v := 0) hx hb dX6_majority_2 (by decide) ?_
  refine lv_istore_n (lv' := [(2, .int 0), (1, .int 0), (0, .ref (o 0))]) hx hb dX6_majority_3 rfl hl (by decide) rfl (fun ls hl => ?_)
  refine lv_iconst (v := 0) hx hb dX6_majority_4 (by decide) ?_
  refine lv_istore_n (lv' := [(3, .int 0), (2, .int 0), (1, .int 0), (0, .ref (o 0))]) hx hb dX6_majority_5 rfl hl (by decide) rfl (fun ls hl => ?_)
  have LO_4 : ∀ (b : Int32) (m1 : Int32), mjL (mZ r) 0 36 b m1 = mjL (mZ r) 4 8 0 0 → ∀ (ls : Array Slot) (H : Heap) (locs : List Loc), va_P g.1 vwCl (MW g o r) H → va_D A (MW g o r) → va_S A s.heap H locs → lv_has ls 6 [(3, .int 4), (2, .int m1), (1, .int b), (0, .ref (o 0))] → W p l e (rmD 1) s m args below meth c H locs 0 0 (MQ below (QI g A (mjL (mZ r) 4 8 0 0) (MW g o r)) args s 0 0 A) (F0 m 6 ls []) := by
    intro b m1 ht ls H locs hP hD hS hl
    refine lv_iload_n hx hb dX6_majority_6 rfl (lv_at hl 0 rfl) ?_
    refine lv_iconst (v := 4) hx hb dX6_majority_7 (by decide) ?_
    refine lv_icmp_ge (tgt := 91) hx hb dX6_majority_8 (by decide) (fun c_1 => ?_) (fun q9 => absurd (show (4 : Int32) ≤ (4 : Int32) from (by decide)) (show ¬ ((4 : Int32) ≤ (4 : Int32)) from q9))
    refine lv_iload_n hx hb dX6_majority_91 rfl (lv_at hl 2 rfl) ?_
    exact x_iret X hr hlocks hP hD hS ht dX6_majority_92
  have LO_3 : ∀ (b : Int32) (m1 : Int32), mjL (mZ r) 1 29 b m1 = mjL (mZ r) 4 8 0 0 → ∀ (ls : Array Slot) (H : Heap) (locs : List Loc), va_P g.1 vwCl (MW g o r) H → va_D A (MW g o r) → va_S A s.heap H locs → lv_has ls 6 [(3, .int 3), (2, .int m1), (1, .int b), (0, .ref (o 0))] → W p l e (rmD 1) s m args below meth c H locs 0 0 (MQ below (QI g A (mjL (mZ r) 4 8 0 0) (MW g o r)) args s 0 0 A) (F0 m 6 ls []) := by
    intro b m1 ht ls H locs hP hD hS hl
    refine lv_iload_n hx hb dX6_majority_6 rfl (lv_at hl 0 rfl) ?_
    refine lv_iconst (v := 4) hx hb dX6_majority_7 (by decide) ?_
    refine lv_icmp_ge (tgt := 91) hx hb dX6_majority_8 (by decide) (fun q9 => absurd q9 (show ¬ (4 : Int32) ≤ (3 : Int32) from (by decide))) (fun c_2 => ?_)
    refine lv_iconst (v := 0) hx hb dX6_majority_11 (by decide) ?_
    refine lv_istore (lv' := [(4, .int 0), (3, .int 3), (2, .int m1), (1, .int b), (0, .ref (o 0))]) hx hb dX6_majority_12 hl (by decide) rfl (fun ls hl => ?_)
    refine lv_iconst (v := 0) hx hb dX6_majority_14 (by decide) ?_
    refine lv_istore (lv' := [(5, .int 0), (4, .int 0), (3, .int 3), (2, .int m1), (1, .int b), (0, .ref (o 0))]) hx hb dX6_majority_15 hl (by decide) rfl (fun ls hl => ?_)
    have LI3_4 : ∀ (n0 : Int32), cwM (mZ r) (mZ r 29) 0 36 n0 = cwM (mZ r) (mZ r 29) 4 8 0 → ∀ (ls : Array Slot) (H : Heap) (locs : List Loc), va_P g.1 vwCl (MW g o r) H → va_D A (MW g o r) → va_S A s.heap H locs → lv_has ls 6 [(5, .int 4), (4, .int n0), (3, .int 3), (2, .int m1), (1, .int b), (0, .ref (o 0))] → W p l e (rmD 1) s m args below meth c H locs 0 0 (MQ below (QI g A (mjL (mZ r) 4 8 0 0) (MW g o r)) args s 0 0 A) (F0 m 17 ls []) := by
      intro n0 ht2 ls H locs hP hD hS hl
      refine lv_iload hx hb dX6_majority_17 (lv_at hl 0 rfl) ?_
      refine lv_iconst (v := 4) hx hb dX6_majority_19 (by decide) ?_
      refine lv_icmp_ge (tgt := 55) hx hb dX6_majority_20 (by decide) (fun c_3 => ?_) (fun q9 => absurd (show (4 : Int32) ≤ (4 : Int32) from (by decide)) (show ¬ ((4 : Int32) ≤ (4 : Int32)) from q9))
      refine lv_iload hx hb dX6_majority_55 (lv_at hl 1 rfl) ?_
      refine lv_iload_n hx hb dX6_majority_57 rfl (lv_at hl 3 rfl) ?_
      refine lv_icmp_le (tgt := 70) hx hb dX6_majority_58 (by decide) (fun (c_4 : n0 ≤ m1) => ?_) (fun (c_4 : ¬ n0 ≤ m1) => ?_)
      · refine lv_iload_n hx hb dX6_majority_70 rfl (lv_at hl 4 rfl) ?_
        refine lv_istore_n (lv' := [(1, .int b), (5, .int 4), (4, .int n0), (3, .int 3), (2, .int m1), (0, .ref (o 0))]) hx hb dX6_majority_71 rfl hl (by decide) rfl (fun ls hl => ?_)
        refine lv_iload hx hb dX6_majority_72 (lv_at hl 2 rfl) ?_
        refine lv_iload_n hx hb dX6_majority_74 rfl (lv_at hl 4 rfl) ?_
        refine lv_icmp_le (tgt := 83) hx hb dX6_majority_75 (by decide) (fun c_5 => ?_) (fun q9 => absurd (show n0 ≤ m1 from c_4) (show ¬ (n0 ≤ m1) from q9))
        refine lv_iload_n hx hb dX6_majority_83 rfl (lv_at hl 4 rfl) ?_
        refine lv_istore_n (lv' := [(2, .int m1), (1, .int b), (5, .int 4), (4, .int n0), (3, .int 3), (0, .ref (o 0))]) hx hb dX6_majority_84 rfl hl (by decide) rfl (fun ls hl => ?_)
        refine lv_iinc (v := 4) (lv' := [(3, .int 4), (2, .int m1), (1, .int b), (5, .int 4), (4, .int n0), (0, .ref (o 0))]) hx hb dX6_majority_85 hl (k := 4) rfl rfl (by decide) rfl (fun ls hl => ?_)
        refine lv_goto (tgt := 6) hx hb dX6_majority_88 (by decide) ?_
        exact LO_4 b m1 (by rw [← ht]; simp only [mjL]; rw [if_pos (show cwM (mZ r) (mZ r 29) 4 8 0 ≤ m1 from by rw [← ht2]; exact c_4)]) ls _ _ hP hD hS (lv_sub hl [0, 1, 2, 5] rfl)
      · refine lv_aload_n hx hb dX6_majority_61 rfl (lv_at hl 5 rfl) ?_
        refine lv_iload_n hx hb dX6_majority_62 rfl (lv_at hl 2 rfl) ?_
        refine lv_iconst (v := 0) hx hb dX6_majority_63 (by decide) ?_
        refine x_goI (wn := MW g o r) (x_rV (As := [.int 3, .int 0]) X (c_X6_of l g o r 3 0 (by decide) (by decide)  _) yf_X6_of yi_X6_of wM_X6_56 ⟨Nat.le_of_ble_eq_true rfl, Nat.le_of_ble_eq_true rfl⟩ hP hD (p_all _) 0 rfl rfl hl rfl rfl (Nat.le_of_ble_eq_true rfl) dX6_majority_64 ⟨Nat.zero_le _, Nat.zero_le _⟩) hP hD hS hA (p_all _) (p_back _) (fun H locs hP hD hS => ?_)
        refine lv_goto (tgt := 71) hx hb dX6_majority_67 (by decide) ?_
        refine lv_istore_n (lv' := [(1, .int ((mZ r) 29)), (5, .int 4), (4, .int n0), (3, .int 3), (2, .int m1), (0, .ref (o 0))]) hx hb dX6_majority_71 rfl hl (by decide) rfl (fun ls hl => ?_)
        refine lv_iload hx hb dX6_majority_72 (lv_at hl 2 rfl) ?_
        refine lv_iload_n hx hb dX6_majority_74 rfl (lv_at hl 4 rfl) ?_
        refine lv_icmp_le (tgt := 83) hx hb dX6_majority_75 (by decide) (fun q9 => absurd q9 (show ¬ n0 ≤ m1 from c_4)) (fun c_6 => ?_)
        refine lv_iload hx hb dX6_majority_78 (lv_at hl 2 rfl) ?_
        refine lv_goto (tgt := 84) hx hb dX6_majority_80 (by decide) ?_
        refine lv_istore_n (lv' := [(2, .int n0), (1, .int ((mZ r) 29)), (5, .int 4), (4, .int n0), (3, .int 3), (0, .ref (o 0))]) hx hb dX6_majority_84 rfl hl (by decide) rfl (fun ls hl => ?_)
        refine lv_iinc (v := 4) (lv' := [(3, .int 4), (2, .int n0), (1, .int ((mZ r) 29)), (5, .int 4), (4, .int n0), (0, .ref (o 0))]) hx hb dX6_majority_85 hl (k := 4) rfl rfl (by decide) rfl (fun ls hl => ?_)
        refine lv_goto (tgt := 6) hx hb dX6_majority_88 (by decide) ?_
        exact LO_4 (mZ r 29) n0 (by rw [← ht]; simp only [mjL]; rw [if_neg (show ¬ cwM (mZ r) (mZ r 29) 4 8 0 ≤ m1 from by rw [← ht2]; exact c_4)]) ls _ _ hP hD hS (lv_sub hl [0, 1, 2, 5] rfl)
    have LI3_3 : ∀ (n0 : Int32), cwM (mZ r) (mZ r 29) 1 29 n0 = cwM (mZ r) (mZ r 29) 4 8 0 → ∀ (ls : Array Slot) (H : Heap) (locs : List Loc), va_P g.1 vwCl (MW g o r) H → va_D A (MW g o r) → va_S A s.heap H locs → lv_has ls 6 [(5, .int 3), (4, .int n0), (3, .int 3), (2, .int m1), (1, .int b), (0, .ref (o 0))] → W p l e (rmD 1) s m args below meth c H locs 0 0 (MQ below (QI g A (mjL (mZ r) 4 8 0 0) (MW g o r)) args s 0 0 A) (F0 m 17 ls []) := by
      intro n0 ht2 ls H locs hP hD hS hl
      refine lv_iload hx hb dX6_majority_17 (lv_at hl 0 rfl) ?_
      refine lv_iconst (v := 4) hx hb dX6_majority_19 (by decide) ?_
      refine lv_icmp_ge (tgt := 55) hx hb dX6_majority_20 (by decide) (fun q9 => absurd q9 (show ¬ (4 : Int32) ≤ (3 : Int32) from (by decide))) (fun c_7 => ?_)
      refine lv_iload hx hb dX6_majority_23 (lv_at hl 1 rfl) ?_
      refine lv_aload_n hx hb dX6_majority_25 rfl (lv_at hl 5 rfl) ?_
      refine lv_iload hx hb dX6_majority_26 (lv_at hl 0 rfl) ?_
      refine lv_iconst (v := 0) hx hb dX6_majority_28 (by decide) ?_
      refine x_goI (wn := MW g o r) (x_rV (As := [.int 3, .int 0]) X (c_X6_of l g o r 3 0 (by decide) (by decide)  _) yf_X6_of yi_X6_of wM_X6_56 ⟨Nat.le_of_ble_eq_true rfl, Nat.le_of_ble_eq_true rfl⟩ hP hD (p_all _) 0 rfl rfl hl rfl rfl (Nat.le_of_ble_eq_true rfl) dX6_majority_29 ⟨Nat.zero_le _, Nat.zero_le _⟩) hP hD hS hA (p_all _) (p_back _) (fun H locs hP hD hS => ?_)
      refine lv_aload_n hx hb dX6_majority_32 rfl (lv_at hl 5 rfl) ?_
      refine lv_iload_n hx hb dX6_majority_33 rfl (lv_at hl 2 rfl) ?_
      refine lv_iconst (v := 0) hx hb dX6_majority_34 (by decide) ?_
      refine x_goI (wn := MW g o r) (x_rV (As := [.int 3, .int 0]) X (c_X6_of l g o r 3 0 (by decide) (by decide)  _) yf_X6_of yi_X6_of wM_X6_56 ⟨Nat.le_of_ble_eq_true rfl, Nat.le_of_ble_eq_true rfl⟩ hP hD (p_all _) 0 rfl rfl hl rfl rfl (Nat.le_of_ble_eq_true rfl) dX6_majority_35 ⟨Nat.zero_le _, Nat.zero_le _⟩) hP hD hS hA (p_all _) (p_back _) (fun H locs hP hD hS => ?_)
      refine lv_icmp_ne (tgt := 45) hx hb dX6_majority_38 (by decide) (fun q9 => absurd (show ((mZ r) 29) = ((mZ r) 29) from rfl) q9) (fun c_8 => ?_)
      refine lv_iconst (v := 1) hx hb dX6_majority_41 (by decide) ?_
      refine lv_goto (tgt := 46) hx hb dX6_majority_42 (by decide) ?_
      refine lv_iadd hx hb dX6_majority_46 ?_
      refine lv_istore (lv' := [(4, .int (n0 + 1)), (5, .int 3), (3, .int 3), (2, .int m1), (1, .int b), (0, .ref (o 0))]) hx hb dX6_majority_47 hl (by decide) rfl (fun ls hl => ?_)
      refine lv_iinc (v := 4) (lv' := [(5, .int 4), (4, .int (n0 + 1)), (3, .int 3), (2, .int m1), (1, .int b), (0, .ref (o 0))]) hx hb dX6_majority_49 hl (k := 1) rfl rfl (by decide) rfl (fun ls hl => ?_)
      refine lv_goto (tgt := 17) hx hb dX6_majority_52 (by decide) ?_
      exact LI3_4 (n0 + 1) (by rw [← ht2]; simp only [cwM, if_true]) ls _ _ hP hD hS (lv_sub hl [0, 1, 2, 3, 4, 5] rfl)
    have LI3_2 : ∀ (n0 : Int32), cwM (mZ r) (mZ r 29) 2 22 n0 = cwM (mZ r) (mZ r 29) 4 8 0 → ∀ (ls : Array Slot) (H : Heap) (locs : List Loc), va_P g.1 vwCl (MW g o r) H → va_D A (MW g o r) → va_S A s.heap H locs → lv_has ls 6 [(5, .int 2), (4, .int n0), (3, .int 3), (2, .int m1), (1, .int b), (0, .ref (o 0))] → W p l e (rmD 1) s m args below meth c H locs 0 0 (MQ below (QI g A (mjL (mZ r) 4 8 0 0) (MW g o r)) args s 0 0 A) (F0 m 17 ls []) := by
      intro n0 ht2 ls H locs hP hD hS hl
      refine lv_iload hx hb dX6_majority_17 (lv_at hl 0 rfl) ?_
      refine lv_iconst (v := 4) hx hb dX6_majority_19 (by decide) ?_
      refine lv_icmp_ge (tgt := 55) hx hb dX6_majority_20 (by decide) (fun q9 => absurd q9 (show ¬ (4 : Int32) ≤ (2 : Int32) from (by decide))) (fun c_9 => ?_)
      refine lv_iload hx hb dX6_majority_23 (lv_at hl 1 rfl) ?_
      refine lv_aload_n hx hb dX6_majority_25 rfl (lv_at hl 5 rfl) ?_
      refine lv_iload hx hb dX6_majority_26 (lv_at hl 0 rfl) ?_
      refine lv_iconst (v := 0) hx hb dX6_majority_28 (by decide) ?_
      refine x_goI (wn := MW g o r) (x_rV (As := [.int 2, .int 0]) X (c_X6_of l g o r 2 0 (by decide) (by decide)  _) yf_X6_of yi_X6_of wM_X6_56 ⟨Nat.le_of_ble_eq_true rfl, Nat.le_of_ble_eq_true rfl⟩ hP hD (p_all _) 0 rfl rfl hl rfl rfl (Nat.le_of_ble_eq_true rfl) dX6_majority_29 ⟨Nat.zero_le _, Nat.zero_le _⟩) hP hD hS hA (p_all _) (p_back _) (fun H locs hP hD hS => ?_)
      refine lv_aload_n hx hb dX6_majority_32 rfl (lv_at hl 5 rfl) ?_
      refine lv_iload_n hx hb dX6_majority_33 rfl (lv_at hl 2 rfl) ?_
      refine lv_iconst (v := 0) hx hb dX6_majority_34 (by decide) ?_
      refine x_goI (wn := MW g o r) (x_rV (As := [.int 3, .int 0]) X (c_X6_of l g o r 3 0 (by decide) (by decide)  _) yf_X6_of yi_X6_of wM_X6_56 ⟨Nat.le_of_ble_eq_true rfl, Nat.le_of_ble_eq_true rfl⟩ hP hD (p_all _) 0 rfl rfl hl rfl rfl (Nat.le_of_ble_eq_true rfl) dX6_majority_35 ⟨Nat.zero_le _, Nat.zero_le _⟩) hP hD hS hA (p_all _) (p_back _) (fun H locs hP hD hS => ?_)
      refine lv_icmp_ne (tgt := 45) hx hb dX6_majority_38 (by decide) (fun (c_10 : ¬ ((mZ r) 22) = ((mZ r) 29)) => ?_) (fun (c_10 : ((mZ r) 22) = ((mZ r) 29)) => ?_)
      · refine lv_iconst (v := 0) hx hb dX6_majority_45 (by decide) ?_
        refine lv_iadd hx hb dX6_majority_46 ?_
        refine lv_istore (lv' := [(4, .int (n0 + 0)), (5, .int 2), (3, .int 3), (2, .int m1), (1, .int b), (0, .ref (o 0))]) hx hb dX6_majority_47 hl (by decide) rfl (fun ls hl => ?_)
        refine lv_iinc (v := 3) (lv' := [(5, .int 3), (4, .int (n0 + 0)), (3, .int 3), (2, .int m1), (1, .int b), (0, .ref (o 0))]) hx hb dX6_majority_49 hl (k := 1) rfl rfl (by decide) rfl (fun ls hl => ?_)
        refine lv_goto (tgt := 17) hx hb dX6_majority_52 (by decide) ?_
        exact LI3_3 (n0 + 0) (by rw [← ht2]; simp only [cwM, if_neg c_10]) ls _ _ hP hD hS (lv_sub hl [0, 1, 2, 3, 4, 5] rfl)
      · refine lv_iconst (v := 1) hx hb dX6_majority_41 (by decide) ?_
        refine lv_goto (tgt := 46) hx hb dX6_majority_42 (by decide) ?_
        refine lv_iadd hx hb dX6_majority_46 ?_
        refine lv_istore (lv' := [(4, .int (n0 + 1)), (5, .int 2), (3, .int 3), (2, .int m1), (1, .int b), (0, .ref (o 0))]) hx hb dX6_majority_47 hl (by decide) rfl (fun ls hl => ?_)
        refine lv_iinc (v := 3) (lv' := [(5, .int 3), (4, .int (n0 + 1)), (3, .int 3), (2, .int m1), (1, .int b), (0, .ref (o 0))]) hx hb dX6_majority_49 hl (k := 1) rfl rfl (by decide) rfl (fun ls hl => ?_)
        refine lv_goto (tgt := 17) hx hb dX6_majority_52 (by decide) ?_
        exact LI3_3 (n0 + 1) (by rw [← ht2]; simp only [cwM, if_pos c_10]) ls _ _ hP hD hS (lv_sub hl [0, 1, 2, 3, 4, 5] rfl)
    have LI3_1 : ∀ (n0 : Int32), cwM (mZ r) (mZ r 29) 3 15 n0 = cwM (mZ r) (mZ r 29) 4 8 0 → ∀ (ls : Array Slot) (H : Heap) (locs : List Loc), va_P g.1 vwCl (MW g o r) H → va_D A (MW g o r) → va_S A s.heap H locs → lv_has ls 6 [(5, .int 1), (4, .int n0), (3, .int 3), (2, .int m1), (1, .int b), (0, .ref (o 0))] → W p l e (rmD 1) s m args below meth c H locs 0 0 (MQ below (QI g A (mjL (mZ r) 4 8 0 0) (MW g o r)) args s 0 0 A) (F0 m 17 ls []) := by
      intro n0 ht2 ls H locs hP hD hS hl
      refine lv_iload hx hb dX6_majority_17 (lv_at hl 0 rfl) ?_
      refine lv_iconst (v := 4) hx hb dX6_majority_19 (by decide) ?_
      refine lv_icmp_ge (tgt := 55) hx hb dX6_majority_20 (by decide) (fun q9 => absurd q9 (show ¬ (4 : Int32) ≤ (1 : Int32) from (by decide))) (fun c_11 => ?_)
      refine lv_iload hx hb dX6_majority_23 (lv_at hl 1 rfl) ?_
      refine lv_aload_n hx hb dX6_majority_25 rfl (lv_at hl 5 rfl) ?_
      refine lv_iload hx hb dX6_majority_26 (lv_at hl 0 rfl) ?_
      refine lv_iconst (v := 0) hx hb dX6_majority_28 (by decide) ?_
      refine x_goI (wn := MW g o r) (x_rV (As := [.int 1, .int 0]) X (c_X6_of l g o r 1 0 (by decide) (by decide)  _) yf_X6_of yi_X6_of wM_X6_56 ⟨Nat.le_of_ble_eq_true rfl, Nat.le_of_ble_eq_true rfl⟩ hP hD (p_all _) 0 rfl rfl hl rfl rfl (Nat.le_of_ble_eq_true rfl) dX6_majority_29 ⟨Nat.zero_le _, Nat.zero_le _⟩) hP hD hS hA (p_all _) (p_back _) (fun H locs hP hD hS => ?_)
      refine lv_aload_n hx hb dX6_majority_32 rfl (lv_at hl 5 rfl) ?_
      refine lv_iload_n hx hb dX6_majority_33 rfl (lv_at hl 2 rfl) ?_
      refine lv_iconst (v := 0) hx hb dX6_majority_34 (by decide) ?_
      refine x_goI (wn := MW g o r) (x_rV (As := [.int 3, .int 0]) X (c_X6_of l g o r 3 0 (by decide) (by decide)  _) yf_X6_of yi_X6_of wM_X6_56 ⟨Nat.le_of_ble_eq_true rfl, Nat.le_of_ble_eq_true rfl⟩ hP hD (p_all _) 0 rfl rfl hl rfl rfl (Nat.le_of_ble_eq_true rfl) dX6_majority_35 ⟨Nat.zero_le _, Nat.zero_le _⟩) hP hD hS hA (p_all _) (p_back _) (fun H locs hP hD hS => ?_)
      refine lv_icmp_ne (tgt := 45) hx hb dX6_majority_38 (by decide) (fun (c_12 : ¬ ((mZ r) 15) = ((mZ r) 29)) => ?_) (fun (c_12 : ((mZ r) 15) = ((mZ r) 29)) => ?_)
      · refine lv_iconst (v := 0) hx hb dX6_majority_45 (by decide) ?_
        refine lv_iadd hx hb dX6_majority_46 ?_
        refine lv_istore (lv' := [(4, .int (n0 + 0)), (5, .int 1), (3, .int 3), (2, .int m1), (1, .int b), (0, .ref (o 0))]) hx hb dX6_majority_47 hl (by decide) rfl (fun ls hl => ?_)
        refine lv_iinc (v := 2) (lv' := [(5, .int 2), (4, .int (n0 + 0)), (3, .int 3), (2, .int m1), (1, .int b), (0, .ref (o 0))]) hx hb dX6_majority_49 hl (k := 1) rfl rfl (by decide) rfl (fun ls hl => ?_)
        refine lv_goto (tgt := 17) hx hb dX6_majority_52 (by decide) ?_
        exact LI3_2 (n0 + 0) (by rw [← ht2]; simp only [cwM, if_neg c_12]) ls _ _ hP hD hS (lv_sub hl [0, 1, 2, 3, 4, 5] rfl)
      · refine lv_iconst (v := 1) hx hb dX6_majority_41 (by decide) ?_
        refine lv_goto (tgt := 46) hx hb dX6_majority_42 (by decide) ?_
        refine lv_iadd hx hb dX6_majority_46 ?_
        refine lv_istore (lv' := [(4, .int (n0 + 1)), (5, .int 1), (3, .int 3), (2, .int m1), (1, .int b), (0, .ref (o 0))]) hx hb dX6_majority_47 hl (by decide) rfl (fun ls hl => ?_)
        refine lv_iinc (v := 2) (lv' := [(5, .int 2), (4, .int (n0 + 1)), (3, .int 3), (2, .int m1), (1, .int b), (0, .ref (o 0))]) hx hb dX6_majority_49 hl (k := 1) rfl rfl (by decide) rfl (fun ls hl => ?_)
        refine lv_goto (tgt := 17) hx hb dX6_majority_52 (by decide) ?_
        exact LI3_2 (n0 + 1) (by rw [← ht2]; simp only [cwM, if_pos c_12]) ls _ _ hP hD hS (lv_sub hl [0, 1, 2, 3, 4, 5] rfl)
    have LI3_0 : ∀ (n0 : Int32), cwM (mZ r) (mZ r 29) 4 8 n0 = cwM (mZ r) (mZ r 29) 4 8 0 → ∀ (ls : Array Slot) (H : Heap) (locs : List Loc), va_P g.1 vwCl (MW g o r) H → va_D A (MW g o r) → va_S A s.heap H locs → lv_has ls 6 [(5, .int 0), (4, .int n0), (3, .int 3), (2, .int m1), (1, .int b), (0, .ref (o 0))] → W p l e (rmD 1) s m args below meth c H locs 0 0 (MQ below (QI g A (mjL (mZ r) 4 8 0 0) (MW g o r)) args s 0 0 A) (F0 m 17 ls []) := by
      intro n0 ht2 ls H locs hP hD hS hl
      refine lv_iload hx hb dX6_majority_17 (lv_at hl 0 rfl) ?_
      refine lv_iconst (v := 4) hx hb dX6_majority_19 (by decide) ?_
      refine lv_icmp_ge (tgt := 55) hx hb dX6_majority_20 (by decide) (fun q9 => absurd q9 (show ¬ (4 : Int32) ≤ (0 : Int32) from (by decide))) (fun c_13 => ?_)
      refine lv_iload hx hb dX6_majority_23 (lv_at hl 1 rfl) ?_
      refine lv_aload_n hx hb dX6_majority_25 rfl (lv_at hl 5 rfl) ?_
      refine lv_iload hx hb dX6_majority_26 (lv_at hl 0 rfl) ?_
      refine lv_iconst (v := 0) hx hb dX6_majority_28 (by decide) ?_
      refine x_goI (wn := MW g o r) (x_rV (As := [.int 0, .int 0]) X (c_X6_of l g o r 0 0 (by decide) (by decide)  _) yf_X6_of yi_X6_of wM_X6_56 ⟨Nat.le_of_ble_eq_true rfl, Nat.le_of_ble_eq_true rfl⟩ hP hD (p_all _) 0 rfl rfl hl rfl rfl (Nat.le_of_ble_eq_true rfl) dX6_majority_29 ⟨Nat.zero_le _, Nat.zero_le _⟩) hP hD hS hA (p_all _) (p_back _) (fun H locs hP hD hS => ?_)
      refine lv_aload_n hx hb dX6_majority_32 rfl (lv_at hl 5 rfl) ?_
      refine lv_iload_n hx hb dX6_majority_33 rfl (lv_at hl 2 rfl) ?_
      refine lv_iconst (v := 0) hx hb dX6_majority_34 (by decide) ?_
      refine x_goI (wn := MW g o r) (x_rV (As := [.int 3, .int 0]) X (c_X6_of l g o r 3 0 (by decide) (by decide)  _) yf_X6_of yi_X6_of wM_X6_56 ⟨Nat.le_of_ble_eq_true rfl, Nat.le_of_ble_eq_true rfl⟩ hP hD (p_all _) 0 rfl rfl hl rfl rfl (Nat.le_of_ble_eq_true rfl) dX6_majority_35 ⟨Nat.zero_le _, Nat.zero_le _⟩) hP hD hS hA (p_all _) (p_back _) (fun H locs hP hD hS => ?_)
      refine lv_icmp_ne (tgt := 45) hx hb dX6_majority_38 (by decide) (fun (c_14 : ¬ ((mZ r) 8) = ((mZ r) 29)) => ?_) (fun (c_14 : ((mZ r) 8) = ((mZ r) 29)) => ?_)
      · refine lv_iconst (v := 0) hx hb dX6_majority_45 (by decide) ?_
        refine lv_iadd hx hb dX6_majority_46 ?_
        refine lv_istore (lv' := [(4, .int (n0 + 0)), (5, .int 0), (3, .int 3), (2, .int m1), (1, .int b), (0, .ref (o 0))]) hx hb dX6_majority_47 hl (by decide) rfl (fun ls hl => ?_)
        refine lv_iinc (v := 1) (lv' := [(5, .int 1), (4, .int (n0 + 0)), (3, .int 3), (2, .int m1), (1, .int b), (0, .ref (o 0))]) hx hb dX6_majority_49 hl (k := 1) rfl rfl (by decide) rfl (fun ls hl => ?_)
        refine lv_goto (tgt := 17) hx hb dX6_majority_52 (by decide) ?_
        exact LI3_1 (n0 + 0) (by rw [← ht2]; simp only [cwM, if_neg c_14]) ls _ _ hP hD hS (lv_sub hl [0, 1, 2, 3, 4, 5] rfl)
      · refine lv_iconst (v := 1) hx hb dX6_majority_41 (by decide) ?_
        refine lv_goto (tgt := 46) hx hb dX6_majority_42 (by decide) ?_
        refine lv_iadd hx hb dX6_majority_46 ?_
        refine lv_istore (lv' := [(4, .int (n0 + 1)), (5, .int 0), (3, .int 3), (2, .int m1), (1, .int b), (0, .ref (o 0))]) hx hb dX6_majority_47 hl (by decide) rfl (fun ls hl => ?_)
        refine lv_iinc (v := 1) (lv' := [(5, .int 1), (4, .int (n0 + 1)), (3, .int 3), (2, .int m1), (1, .int b), (0, .ref (o 0))]) hx hb dX6_majority_49 hl (k := 1) rfl rfl (by decide) rfl (fun ls hl => ?_)
        refine lv_goto (tgt := 17) hx hb dX6_majority_52 (by decide) ?_
        exact LI3_1 (n0 + 1) (by rw [← ht2]; simp only [cwM, if_pos c_14]) ls _ _ hP hD hS (lv_sub hl [0, 1, 2, 3, 4, 5] rfl)
    exact LI3_0 0 rfl ls _ _ hP hD hS (lv_sub hl [0, 1, 2, 3, 4, 5] rfl)
  have LO_2 : ∀ (b : Int32) (m1 : Int32), mjL (mZ r) 2 22 b m1 = mjL (mZ r) 4 8 0 0 → ∀ (ls : Array Slot) (H : Heap) (locs : List Loc), va_P g.1 vwCl (MW g o r) H → va_D A (MW g o r) → va_S A s.heap H locs → lv_has ls 6 [(3, .int 2), (2, .int m1), (1, .int b), (0, .ref (o 0))] → W p l e (rmD 1) s m args below meth c H locs 0 0 (MQ below (QI g A (mjL (mZ r) 4 8 0 0) (MW g o r)) args s 0 0 A) (F0 m 6 ls []) := by
    intro b m1 ht ls H locs hP hD hS hl
    refine lv_iload_n hx hb dX6_majority_6 rfl (lv_at hl 0 rfl) ?_
    refine lv_iconst (v := 4) hx hb dX6_majority_7 (by decide) ?_
    refine lv_icmp_ge (tgt := 91) hx hb dX6_majority_8 (by decide) (fun q9 => absurd q9 (show ¬ (4 : Int32) ≤ (2 : Int32) from (by decide))) (fun c_15 => ?_)
    refine lv_iconst (v := 0) hx hb dX6_majority_11 (by decide) ?_
    refine lv_istore (lv' := [(4, .int 0), (3, .int 2), (2, .int m1), (1, .int b), (0, .ref (o 0))]) hx hb dX6_majority_12 hl (by decide) rfl (fun ls hl => ?_)
    refine lv_iconst (v := 0) hx hb dX6_majority_14 (by decide) ?_
    refine lv_istore (lv' := [(5, .int 0), (4, .int 0), (3, .int 2), (2, .int m1), (1, .int b), (0, .ref (o 0))]) hx hb dX6_majority_15 hl (by decide) rfl (fun ls hl => ?_)
    have LI2_4 : ∀ (n0 : Int32), cwM (mZ r) (mZ r 22) 0 36 n0 = cwM (mZ r) (mZ r 22) 4 8 0 → ∀ (ls : Array Slot) (H : Heap) (locs : List Loc), va_P g.1 vwCl (MW g o r) H → va_D A (MW g o r) → va_S A s.heap H locs → lv_has ls 6 [(5, .int 4), (4, .int n0), (3, .int 2), (2, .int m1), (1, .int b), (0, .ref (o 0))] → W p l e (rmD 1) s m args below meth c H locs 0 0 (MQ below (QI g A (mjL (mZ r) 4 8 0 0) (MW g o r)) args s 0 0 A) (F0 m 17 ls []) := by
      intro n0 ht2 ls H locs hP hD hS hl
      refine lv_iload hx hb dX6_majority_17 (lv_at hl 0 rfl) ?_
      refine lv_iconst (v := 4) hx hb dX6_majority_19 (by decide) ?_
      refine lv_icmp_ge (tgt := 55) hx hb dX6_majority_20 (by decide) (fun c_16 => ?_) (fun q9 => absurd (show (4 : Int32) ≤ (4 : Int32) from (by decide)) (show ¬ ((4 : Int32) ≤ (4 : Int32)) from q9))
      refine lv_iload hx hb dX6_majority_55 (lv_at hl 1 rfl) ?_
      refine lv_iload_n hx hb dX6_majority_57 rfl (lv_at hl 3 rfl) ?_
      refine lv_icmp_le (tgt := 70) hx hb dX6_majority_58 (by decide) (fun (c_17 : n0 ≤ m1) => ?_) (fun (c_17 : ¬ n0 ≤ m1) => ?_)
      · refine lv_iload_n hx hb dX6_majority_70 rfl (lv_at hl 4 rfl) ?_
        refine lv_istore_n (lv' := [(1, .int b), (5, .int 4), (4, .int n0), (3, .int 2), (2, .int m1), (0, .ref (o 0))]) hx hb dX6_majority_71 rfl hl (by decide) rfl (fun ls hl => ?_)
        refine lv_iload hx hb dX6_majority_72 (lv_at hl 2 rfl) ?_
        refine lv_iload_n hx hb dX6_majority_74 rfl (lv_at hl 4 rfl) ?_
        refine lv_icmp_le (tgt := 83) hx hb dX6_majority_75 (by decide) (fun c_18 => ?_) (fun q9 => absurd (show n0 ≤ m1 from c_17) (show ¬ (n0 ≤ m1) from q9))
        refine lv_iload_n hx hb dX6_majority_83 rfl (lv_at hl 4 rfl) ?_
        refine lv_istore_n (lv' := [(2, .int m1), (1, .int b), (5, .int 4), (4, .int n0), (3, .int 2), (0, .ref (o 0))]) hx hb dX6_majority_84 rfl hl (by decide) rfl (fun ls hl => ?_)
        refine lv_iinc (v := 3) (lv' := [(3, .int 3), (2, .int m1), (1, .int b), (5, .int 4), (4, .int n0), (0, .ref (o 0))]) hx hb dX6_majority_85 hl (k := 4) rfl rfl (by decide) rfl (fun ls hl => ?_)
        refine lv_goto (tgt := 6) hx hb dX6_majority_88 (by decide) ?_
        exact LO_3 b m1 (by rw [← ht]; simp only [mjL]; rw [if_pos (show cwM (mZ r) (mZ r 22) 4 8 0 ≤ m1 from by rw [← ht2]; exact c_17)]) ls _ _ hP hD hS (lv_sub hl [0, 1, 2, 5] rfl)
      · refine lv_aload_n hx hb dX6_majority_61 rfl (lv_at hl 5 rfl) ?_
        refine lv_iload_n hx hb dX6_majority_62 rfl (lv_at hl 2 rfl) ?_
        refine lv_iconst (v := 0) hx hb dX6_majority_63 (by decide) ?_
        refine x_goI (wn := MW g o r) (x_rV (As := [.int 2, .int 0]) X (c_X6_of l g o r 2 0 (by decide) (by decide)  _) yf_X6_of yi_X6_of wM_X6_56 ⟨Nat.le_of_ble_eq_true rfl, Nat.le_of_ble_eq_true rfl⟩ hP hD (p_all _) 0 rfl rfl hl rfl rfl (Nat.le_of_ble_eq_true rfl) dX6_majority_64 ⟨Nat.zero_le _, Nat.zero_le _⟩) hP hD hS hA (p_all _) (p_back _) (fun H locs hP hD hS => ?_)
        refine lv_goto (tgt := 71) hx hb dX6_majority_67 (by decide) ?_
        refine lv_istore_n (lv' := [(1, .int ((mZ r) 22)), (5, .int 4), (4, .int n0), (3, .int 2), (2, .int m1), (0, .ref (o 0))]) hx hb dX6_majority_71 rfl hl (by decide) rfl (fun ls hl => ?_)
        refine lv_iload hx hb dX6_majority_72 (lv_at hl 2 rfl) ?_
        refine lv_iload_n hx hb dX6_majority_74 rfl (lv_at hl 4 rfl) ?_
        refine lv_icmp_le (tgt := 83) hx hb dX6_majority_75 (by decide) (fun q9 => absurd q9 (show ¬ n0 ≤ m1 from c_17)) (fun c_19 => ?_)
        refine lv_iload hx hb dX6_majority_78 (lv_at hl 2 rfl) ?_
        refine lv_goto (tgt := 84) hx hb dX6_majority_80 (by decide) ?_
        refine lv_istore_n (lv' := [(2, .int n0), (1, .int ((mZ r) 22)), (5, .int 4), (4, .int n0), (3, .int 2), (0, .ref (o 0))]) hx hb dX6_majority_84 rfl hl (by decide) rfl (fun ls hl => ?_)
        refine lv_iinc (v := 3) (lv' := [(3, .int 3), (2, .int n0), (1, .int ((mZ r) 22)), (5, .int 4), (4, .int n0), (0, .ref (o 0))]) hx hb dX6_majority_85 hl (k := 4) rfl rfl (by decide) rfl (fun ls hl => ?_)
        refine lv_goto (tgt := 6) hx hb dX6_majority_88 (by decide) ?_
        exact LO_3 (mZ r 22) n0 (by rw [← ht]; simp only [mjL]; rw [if_neg (show ¬ cwM (mZ r) (mZ r 22) 4 8 0 ≤ m1 from by rw [← ht2]; exact c_17)]; exact congrArg (mjL (mZ r) 1 29 (mZ r 22)) ht2) ls _ _ hP hD hS (lv_sub hl [0, 1, 2, 5] rfl)
    have LI2_3 : ∀ (n0 : Int32), cwM (mZ r) (mZ r 22) 1 29 n0 = cwM (mZ r) (mZ r 22) 4 8 0 → ∀ (ls : Array Slot) (H : Heap) (locs : List Loc), va_P g.1 vwCl (MW g o r) H → va_D A (MW g o r) → va_S A s.heap H locs → lv_has ls 6 [(5, .int 3), (4, .int n0), (3, .int 2), (2, .int m1), (1, .int b), (0, .ref (o 0))] → W p l e (rmD 1) s m args below meth c H locs 0 0 (MQ below (QI g A (mjL (mZ r) 4 8 0 0) (MW g o r)) args s 0 0 A) (F0 m 17 ls []) := by
      intro n0 ht2 ls H locs hP hD hS hl
      refine lv_iload hx hb dX6_majority_17 (lv_at hl 0 rfl) ?_
      refine lv_iconst (v := 4) hx hb dX6_majority_19 (by decide) ?_
      refine lv_icmp_ge (tgt := 55) hx hb dX6_majority_20 (by decide) (fun q9 => absurd q9 (show ¬ (4 : Int32) ≤ (3 : Int32) from (by decide))) (fun c_20 => ?_)
      refine lv_iload hx hb dX6_majority_23 (lv_at hl 1 rfl) ?_
      refine lv_aload_n hx hb dX6_majority_25 rfl (lv_at hl 5 rfl) ?_
      refine lv_iload hx hb dX6_majority_26 (lv_at hl 0 rfl) ?_
      refine lv_iconst (v := 0) hx hb dX6_majority_28 (by decide) ?_
      refine x_goI (wn := MW g o r) (x_rV (As := [.int 3, .int 0]) X (c_X6_of l g o r 3 0 (by decide) (by decide)  _) yf_X6_of yi_X6_of wM_X6_56 ⟨Nat.le_of_ble_eq_true rfl, Nat.le_of_ble_eq_true rfl⟩ hP hD (p_all _) 0 rfl rfl hl rfl rfl (Nat.le_of_ble_eq_true rfl) dX6_majority_29 ⟨Nat.zero_le _, Nat.zero_le _⟩) hP hD hS hA (p_all _) (p_back _) (fun H locs hP hD hS => ?_)
      refine lv_aload_n hx hb dX6_majority_32 rfl (lv_at hl 5 rfl) ?_
      refine lv_iload_n hx hb dX6_majority_33 rfl (lv_at hl 2 rfl) ?_
      refine lv_iconst (v := 0) hx hb dX6_majority_34 (by decide) ?_
      refine x_goI (wn := MW g o r) (x_rV (As := [.int 2, .int 0]) X (c_X6_of l g o r 2 0 (by decide) (by decide)  _) yf_X6_of yi_X6_of wM_X6_56 ⟨Nat.le_of_ble_eq_true rfl, Nat.le_of_ble_eq_true rfl⟩ hP hD (p_all _) 0 rfl rfl hl rfl rfl (Nat.le_of_ble_eq_true rfl) dX6_majority_35 ⟨Nat.zero_le _, Nat.zero_le _⟩) hP hD hS hA (p_all _) (p_back _) (fun H locs hP hD hS => ?_)
      refine lv_icmp_ne (tgt := 45) hx hb dX6_majority_38 (by decide) (fun (c_21 : ¬ ((mZ r) 29) = ((mZ r) 22)) => ?_) (fun (c_21 : ((mZ r) 29) = ((mZ r) 22)) => ?_)
      · refine lv_iconst (v := 0) hx hb dX6_majority_45 (by decide) ?_
        refine lv_iadd hx hb dX6_majority_46 ?_
        refine lv_istore (lv' := [(4, .int (n0 + 0)), (5, .int 3), (3, .int 2), (2, .int m1), (1, .int b), (0, .ref (o 0))]) hx hb dX6_majority_47 hl (by decide) rfl (fun ls hl => ?_)
        refine lv_iinc (v := 4) (lv' := [(5, .int 4), (4, .int (n0 + 0)), (3, .int 2), (2, .int m1), (1, .int b), (0, .ref (o 0))]) hx hb dX6_majority_49 hl (k := 1) rfl rfl (by decide) rfl (fun ls hl => ?_)
        refine lv_goto (tgt := 17) hx hb dX6_majority_52 (by decide) ?_
        exact LI2_4 (n0 + 0) (by rw [← ht2]; simp only [cwM, if_neg c_21]) ls _ _ hP hD hS (lv_sub hl [0, 1, 2, 3, 4, 5] rfl)
      · refine lv_iconst (v := 1) hx hb dX6_majority_41 (by decide) ?_
        refine lv_goto (tgt := 46) hx hb dX6_majority_42 (by decide) ?_
        refine lv_iadd hx hb dX6_majority_46 ?_
        refine lv_istore (lv' := [(4, .int (n0 + 1)), (5, .int 3), (3, .int 2), (2, .int m1), (1, .int b), (0, .ref (o 0))]) hx hb dX6_majority_47 hl (by decide) rfl (fun ls hl => ?_)
        refine lv_iinc (v := 4) (lv' := [(5, .int 4), (4, .int (n0 + 1)), (3, .int 2), (2, .int m1), (1, .int b), (0, .ref (o 0))]) hx hb dX6_majority_49 hl (k := 1) rfl rfl (by decide) rfl (fun ls hl => ?_)
        refine lv_goto (tgt := 17) hx hb dX6_majority_52 (by decide) ?_
        exact LI2_4 (n0 + 1) (by rw [← ht2]; simp only [cwM, if_pos c_21]) ls _ _ hP hD hS (lv_sub hl [0, 1, 2, 3, 4, 5] rfl)
    have LI2_2 : ∀ (n0 : Int32), cwM (mZ r) (mZ r 22) 2 22 n0 = cwM (mZ r) (mZ r 22) 4 8 0 → ∀ (ls : Array Slot) (H : Heap) (locs : List Loc), va_P g.1 vwCl (MW g o r) H → va_D A (MW g o r) → va_S A s.heap H locs → lv_has ls 6 [(5, .int 2), (4, .int n0), (3, .int 2), (2, .int m1), (1, .int b), (0, .ref (o 0))] → W p l e (rmD 1) s m args below meth c H locs 0 0 (MQ below (QI g A (mjL (mZ r) 4 8 0 0) (MW g o r)) args s 0 0 A) (F0 m 17 ls []) := by
      intro n0 ht2 ls H locs hP hD hS hl
      refine lv_iload hx hb dX6_majority_17 (lv_at hl 0 rfl) ?_
      refine lv_iconst (v := 4) hx hb dX6_majority_19 (by decide) ?_
      refine lv_icmp_ge (tgt := 55) hx hb dX6_majority_20 (by decide) (fun q9 => absurd q9 (show ¬ (4 : Int32) ≤ (2 : Int32) from (by decide))) (fun c_22 => ?_)
      refine lv_iload hx hb dX6_majority_23 (lv_at hl 1 rfl) ?_
      refine lv_aload_n hx hb dX6_majority_25 rfl (lv_at hl 5 rfl) ?_
      refine lv_iload hx hb dX6_majority_26 (lv_at hl 0 rfl) ?_
      refine lv_iconst (v := 0) hx hb dX6_majority_28 (by decide) ?_
      refine x_goI (wn := MW g o r) (x_rV (As := [.int 2, .int 0]) X (c_X6_of l g o r 2 0 (by decide) (by decide)  _) yf_X6_of yi_X6_of wM_X6_56 ⟨Nat.le_of_ble_eq_true rfl, Nat.le_of_ble_eq_true rfl⟩ hP hD (p_all _) 0 rfl rfl hl rfl rfl (Nat.le_of_ble_eq_true rfl) dX6_majority_29 ⟨Nat.zero_le _, Nat.zero_le _⟩) hP hD hS hA (p_all _) (p_back _) (fun H locs hP hD hS => ?_)
      refine lv_aload_n hx hb dX6_majority_32 rfl (lv_at hl 5 rfl) ?_
      refine lv_iload_n hx hb dX6_majority_33 rfl (lv_at hl 2 rfl) ?_
      refine lv_iconst (v := 0) hx hb dX6_majority_34 (by decide) ?_
      refine x_goI (wn := MW g o r) (x_rV (As := [.int 2, .int 0]) X (c_X6_of l g o r 2 0 (by decide) (by decide)  _) yf_X6_of yi_X6_of wM_X6_56 ⟨Nat.le_of_ble_eq_true rfl, Nat.le_of_ble_eq_true rfl⟩ hP hD (p_all _) 0 rfl rfl hl rfl rfl (Nat.le_of_ble_eq_true rfl) dX6_majority_35 ⟨Nat.zero_le _, Nat.zero_le _⟩) hP hD hS hA (p_all _) (p_back _) (fun H locs hP hD hS => ?_)
      refine lv_icmp_ne (tgt := 45) hx hb dX6_majority_38 (by decide) (fun q9 => absurd (show ((mZ r) 22) = ((mZ r) 22) from rfl) q9) (fun c_23 => ?_)
      refine lv_iconst (v := 1) hx hb dX6_majority_41 (by decide) ?_
      refine lv_goto (tgt := 46) hx hb dX6_majority_42 (by decide) ?_
      refine lv_iadd hx hb dX6_majority_46 ?_
      refine lv_istore (lv' := [(4, .int (n0 + 1)), (5, .int 2), (3, .int 2), (2, .int m1), (1, .int b), (0, .ref (o 0))]) hx hb dX6_majority_47 hl (by decide) rfl (fun ls hl => ?_)
      refine lv_iinc (v := 3) (lv' := [(5, .int 3), (4, .int (n0 + 1)), (3, .int 2), (2, .int m1), (1, .int b), (0, .ref (o 0))]) hx hb dX6_majority_49 hl (k := 1) rfl rfl (by decide) rfl (fun ls hl => ?_)
      refine lv_goto (tgt := 17) hx hb dX6_majority_52 (by decide) ?_
      exact LI2_3 (n0 + 1) (by rw [← ht2]; simp only [cwM, if_true]) ls _ _ hP hD hS (lv_sub hl [0, 1, 2, 3, 4, 5] rfl)
    have LI2_1 : ∀ (n0 : Int32), cwM (mZ r) (mZ r 22) 3 15 n0 = cwM (mZ r) (mZ r 22) 4 8 0 → ∀ (ls : Array Slot) (H : Heap) (locs : List Loc), va_P g.1 vwCl (MW g o r) H → va_D A (MW g o r) → va_S A s.heap H locs → lv_has ls 6 [(5, .int 1), (4, .int n0), (3, .int 2), (2, .int m1), (1, .int b), (0, .ref (o 0))] → W p l e (rmD 1) s m args below meth c H locs 0 0 (MQ below (QI g A (mjL (mZ r) 4 8 0 0) (MW g o r)) args s 0 0 A) (F0 m 17 ls []) := by
      intro n0 ht2 ls H locs hP hD hS hl
      refine lv_iload hx hb dX6_majority_17 (lv_at hl 0 rfl) ?_
      refine lv_iconst (v := 4) hx hb dX6_majority_19 (by decide) ?_
      refine lv_icmp_ge (tgt := 55) hx hb dX6_majority_20 (by decide) (fun q9 => absurd q9 (show ¬ (4 : Int32) ≤ (1 : Int32) from (by decide))) (fun c_24 => ?_)
      refine lv_iload hx hb dX6_majority_23 (lv_at hl 1 rfl) ?_
      refine lv_aload_n hx hb dX6_majority_25 rfl (lv_at hl 5 rfl) ?_
      refine lv_iload hx hb dX6_majority_26 (lv_at hl 0 rfl) ?_
      refine lv_iconst (v := 0) hx hb dX6_majority_28 (by decide) ?_
      refine x_goI (wn := MW g o r) (x_rV (As := [.int 1, .int 0]) X (c_X6_of l g o r 1 0 (by decide) (by decide)  _) yf_X6_of yi_X6_of wM_X6_56 ⟨Nat.le_of_ble_eq_true rfl, Nat.le_of_ble_eq_true rfl⟩ hP hD (p_all _) 0 rfl rfl hl rfl rfl (Nat.le_of_ble_eq_true rfl) dX6_majority_29 ⟨Nat.zero_le _, Nat.zero_le _⟩) hP hD hS hA (p_all _) (p_back _) (fun H locs hP hD hS => ?_)
      refine lv_aload_n hx hb dX6_majority_32 rfl (lv_at hl 5 rfl) ?_
      refine lv_iload_n hx hb dX6_majority_33 rfl (lv_at hl 2 rfl) ?_
      refine lv_iconst (v := 0) hx hb dX6_majority_34 (by decide) ?_
      refine x_goI (wn := MW g o r) (x_rV (As := [.int 2, .int 0]) X (c_X6_of l g o r 2 0 (by decide) (by decide)  _) yf_X6_of yi_X6_of wM_X6_56 ⟨Nat.le_of_ble_eq_true rfl, Nat.le_of_ble_eq_true rfl⟩ hP hD (p_all _) 0 rfl rfl hl rfl rfl (Nat.le_of_ble_eq_true rfl) dX6_majority_35 ⟨Nat.zero_le _, Nat.zero_le _⟩) hP hD hS hA (p_all _) (p_back _) (fun H locs hP hD hS => ?_)
      refine lv_icmp_ne (tgt := 45) hx hb dX6_majority_38 (by decide) (fun (c_25 : ¬ ((mZ r) 15) = ((mZ r) 22)) => ?_) (fun (c_25 : ((mZ r) 15) = ((mZ r) 22)) => ?_)
      · refine lv_iconst (v := 0) hx hb dX6_majority_45 (by decide) ?_
        refine lv_iadd hx hb dX6_majority_46 ?_
        refine lv_istore (lv' := [(4, .int (n0 + 0)), (5, .int 1), (3, .int 2), (2, .int m1), (1, .int b), (0, .ref (o 0))]) hx hb dX6_majority_47 hl (by decide) rfl (fun ls hl => ?_)
        refine lv_iinc (v := 2) (lv' := [(5, .int 2), (4, .int (n0 + 0)), (3, .int 2), (2, .int m1), (1, .int b), (0, .ref (o 0))]) hx hb dX6_majority_49 hl (k := 1) rfl rfl (by decide) rfl (fun ls hl => ?_)
        refine lv_goto (tgt := 17) hx hb dX6_majority_52 (by decide) ?_
        exact LI2_2 (n0 + 0) (by rw [← ht2]; simp only [cwM, if_neg c_25]) ls _ _ hP hD hS (lv_sub hl [0, 1, 2, 3, 4, 5] rfl)
      · refine lv_iconst (v := 1) hx hb dX6_majority_41 (by decide) ?_
        refine lv_goto (tgt := 46) hx hb dX6_majority_42 (by decide) ?_
        refine lv_iadd hx hb dX6_majority_46 ?_
        refine lv_istore (lv' := [(4, .int (n0 + 1)), (5, .int 1), (3, .int 2), (2, .int m1), (1, .int b), (0, .ref (o 0))]) hx hb dX6_majority_47 hl (by decide) rfl (fun ls hl => ?_)
        refine lv_iinc (v := 2) (lv' := [(5, .int 2), (4, .int (n0 + 1)), (3, .int 2), (2, .int m1), (1, .int b), (0, .ref (o 0))]) hx hb dX6_majority_49 hl (k := 1) rfl rfl (by decide) rfl (fun ls hl => ?_)
        refine lv_goto (tgt := 17) hx hb dX6_majority_52 (by decide) ?_
        exact LI2_2 (n0 + 1) (by rw [← ht2]; simp only [cwM, if_pos c_25]) ls _ _ hP hD hS (lv_sub hl [0, 1, 2, 3, 4, 5] rfl)
    have LI2_0 : ∀ (n0 : Int32), cwM (mZ r) (mZ r 22) 4 8 n0 = cwM (mZ r) (mZ r 22) 4 8 0 → ∀ (ls : Array Slot) (H : Heap) (locs : List Loc), va_P g.1 vwCl (MW g o r) H → va_D A (MW g o r) → va_S A s.heap H locs → lv_has ls 6 [(5, .int 0), (4, .int n0), (3, .int 2), (2, .int m1), (1, .int b), (0, .ref (o 0))] → W p l e (rmD 1) s m args below meth c H locs 0 0 (MQ below (QI g A (mjL (mZ r) 4 8 0 0) (MW g o r)) args s 0 0 A) (F0 m 17 ls []) := by
      intro n0 ht2 ls H locs hP hD hS hl
      refine lv_iload hx hb dX6_majority_17 (lv_at hl 0 rfl) ?_
      refine lv_iconst (v := 4) hx hb dX6_majority_19 (by decide) ?_
      refine lv_icmp_ge (tgt := 55) hx hb dX6_majority_20 (by decide) (fun q9 => absurd q9 (show ¬ (4 : Int32) ≤ (0 : Int32) from (by decide))) (fun c_26 => ?_)
      refine lv_iload hx hb dX6_majority_23 (lv_at hl 1 rfl) ?_
      refine lv_aload_n hx hb dX6_majority_25 rfl (lv_at hl 5 rfl) ?_
      refine lv_iload hx hb dX6_majority_26 (lv_at hl 0 rfl) ?_
      refine lv_iconst (v := 0) hx hb dX6_majority_28 (by decide) ?_
      refine x_goI (wn := MW g o r) (x_rV (As := [.int 0, .int 0]) X (c_X6_of l g o r 0 0 (by decide) (by decide)  _) yf_X6_of yi_X6_of wM_X6_56 ⟨Nat.le_of_ble_eq_true rfl, Nat.le_of_ble_eq_true rfl⟩ hP hD (p_all _) 0 rfl rfl hl rfl rfl (Nat.le_of_ble_eq_true rfl) dX6_majority_29 ⟨Nat.zero_le _, Nat.zero_le _⟩) hP hD hS hA (p_all _) (p_back _) (fun H locs hP hD hS => ?_)
      refine lv_aload_n hx hb dX6_majority_32 rfl (lv_at hl 5 rfl) ?_
      refine lv_iload_n hx hb dX6_majority_33 rfl (lv_at hl 2 rfl) ?_
      refine lv_iconst (v := 0) hx hb dX6_majority_34 (by decide) ?_
      refine x_goI (wn := MW g o r) (x_rV (As := [.int 2, .int 0]) X (c_X6_of l g o r 2 0 (by decide) (by decide)  _) yf_X6_of yi_X6_of wM_X6_56 ⟨Nat.le_of_ble_eq_true rfl, Nat.le_of_ble_eq_true rfl⟩ hP hD (p_all _) 0 rfl rfl hl rfl rfl (Nat.le_of_ble_eq_true rfl) dX6_majority_35 ⟨Nat.zero_le _, Nat.zero_le _⟩) hP hD hS hA (p_all _) (p_back _) (fun H locs hP hD hS => ?_)
      refine lv_icmp_ne (tgt := 45) hx hb dX6_majority_38 (by decide) (fun (c_27 : ¬ ((mZ r) 8) = ((mZ r) 22)) => ?_) (fun (c_27 : ((mZ r) 8) = ((mZ r) 22)) => ?_)
      · refine lv_iconst (v := 0) hx hb dX6_majority_45 (by decide) ?_
        refine lv_iadd hx hb dX6_majority_46 ?_
        refine lv_istore (lv' := [(4, .int (n0 + 0)), (5, .int 0), (3, .int 2), (2, .int m1), (1, .int b), (0, .ref (o 0))]) hx hb dX6_majority_47 hl (by decide) rfl (fun ls hl => ?_)
        refine lv_iinc (v := 1) (lv' := [(5, .int 1), (4, .int (n0 + 0)), (3, .int 2), (2, .int m1), (1, .int b), (0, .ref (o 0))]) hx hb dX6_majority_49 hl (k := 1) rfl rfl (by decide) rfl (fun ls hl => ?_)
        refine lv_goto (tgt := 17) hx hb dX6_majority_52 (by decide) ?_
        exact LI2_1 (n0 + 0) (by rw [← ht2]; simp only [cwM, if_neg c_27]) ls _ _ hP hD hS (lv_sub hl [0, 1, 2, 3, 4, 5] rfl)
      · refine lv_iconst (v := 1) hx hb dX6_majority_41 (by decide) ?_
        refine lv_goto (tgt := 46) hx hb dX6_majority_42 (by decide) ?_
        refine lv_iadd hx hb dX6_majority_46 ?_
        refine lv_istore (lv' := [(4, .int (n0 + 1)), (5, .int 0), (3, .int 2), (2, .int m1), (1, .int b), (0, .ref (o 0))]) hx hb dX6_majority_47 hl (by decide) rfl (fun ls hl => ?_)
        refine lv_iinc (v := 1) (lv' := [(5, .int 1), (4, .int (n0 + 1)), (3, .int 2), (2, .int m1), (1, .int b), (0, .ref (o 0))]) hx hb dX6_majority_49 hl (k := 1) rfl rfl (by decide) rfl (fun ls hl => ?_)
        refine lv_goto (tgt := 17) hx hb dX6_majority_52 (by decide) ?_
        exact LI2_1 (n0 + 1) (by rw [← ht2]; simp only [cwM, if_pos c_27]) ls _ _ hP hD hS (lv_sub hl [0, 1, 2, 3, 4, 5] rfl)
    exact LI2_0 0 rfl ls _ _ hP hD hS (lv_sub hl [0, 1, 2, 3, 4, 5] rfl)
  have LO_1 : ∀ (b : Int32) (m1 : Int32), mjL (mZ r) 3 15 b m1 = mjL (mZ r) 4 8 0 0 → ∀ (ls : Array Slot) (H : Heap) (locs : List Loc), va_P g.1 vwCl (MW g o r) H → va_D A (MW g o r) → va_S A s.heap H locs → lv_has ls 6 [(3, .int 1), (2, .int m1), (1, .int b), (0, .ref (o 0))] → W p l e (rmD 1) s m args below meth c H locs 0 0 (MQ below (QI g A (mjL (mZ r) 4 8 0 0) (MW g o r)) args s 0 0 A) (F0 m 6 ls []) := by
    intro b m1 ht ls H locs hP hD hS hl
    refine lv_iload_n hx hb dX6_majority_6 rfl (lv_at hl 0 rfl) ?_
    refine lv_iconst (v := 4) hx hb dX6_majority_7 (by decide) ?_
    refine lv_icmp_ge (tgt := 91) hx hb dX6_majority_8 (by decide) (fun q9 => absurd q9 (show ¬ (4 : Int32) ≤ (1 : Int32) from (by decide))) (fun c_28 => ?_)
    refine lv_iconst (v := 0) hx hb dX6_majority_11 (by decide) ?_
    refine lv_istore (lv' := [(4, .int 0), (3, .int 1), (2, .int m1), (1, .int b), (0, .ref (o 0))]) hx hb dX6_majority_12 hl (by decide) rfl (fun ls hl => ?_)
    refine lv_iconst (v := 0) hx hb dX6_majority_14 (by decide) ?_
    refine lv_istore (lv' := [(5, .int 0), (4, .int 0), (3, .int 1), (2, .int m1), (1, .int b), (0, .ref (o 0))]) hx hb dX6_majority_15 hl (by decide) rfl (fun ls hl => ?_)
    have LI1_4 : ∀ (n0 : Int32), cwM (mZ r) (mZ r 15) 0 36 n0 = cwM (mZ r) (mZ r 15) 4 8 0 → ∀ (ls : Array Slot) (H : Heap) (locs : List Loc), va_P g.1 vwCl (MW g o r) H → va_D A (MW g o r) → va_S A s.heap H locs → lv_has ls 6 [(5, .int 4), (4, .int n0), (3, .int 1), (2, .int m1), (1, .int b), (0, .ref (o 0))] → W p l e (rmD 1) s m args below meth c H locs 0 0 (MQ below (QI g A (mjL (mZ r) 4 8 0 0) (MW g o r)) args s 0 0 A) (F0 m 17 ls []) := by
      intro n0 ht2 ls H locs hP hD hS hl
      refine lv_iload hx hb dX6_majority_17 (lv_at hl 0 rfl) ?_
      refine lv_iconst (v := 4) hx hb dX6_majority_19 (by decide) ?_
      refine lv_icmp_ge (tgt := 55) hx hb dX6_majority_20 (by decide) (fun c_29 => ?_) (fun q9 => absurd (show (4 : Int32) ≤ (4 : Int32) from (by decide)) (show ¬ ((4 : Int32) ≤ (4 : Int32)) from q9))
      refine lv_iload hx hb dX6_majority_55 (lv_at hl 1 rfl) ?_
      refine lv_iload_n hx hb dX6_majority_57 rfl (lv_at hl 3 rfl) ?_
      refine lv_icmp_le (tgt := 70) hx hb dX6_majority_58 (by decide) (fun (c_30 : n0 ≤ m1) => ?_) (fun (c_30 : ¬ n0 ≤ m1) => ?_)
      · refine lv_iload_n hx hb dX6_majority_70 rfl (lv_at hl 4 rfl) ?_
        refine lv_istore_n (lv' := [(1, .int b), (5, .int 4), (4, .int n0), (3, .int 1), (2, .int m1), (0, .ref (o 0))]) hx hb dX6_majority_71 rfl hl (by decide) rfl (fun ls hl => ?_)
        refine lv_iload hx hb dX6_majority_72 (lv_at hl 2 rfl) ?_
        refine lv_iload_n hx hb dX6_majority_74 rfl (lv_at hl 4 rfl) ?_
        refine lv_icmp_le (tgt := 83) hx hb dX6_majority_75 (by decide) (fun c_31 => ?_) (fun q9 => absurd (show n0 ≤ m1 from c_30) (show ¬ (n0 ≤ m1) from q9))
        refine lv_iload_n hx hb dX6_majority_83 rfl (lv_at hl 4 rfl) ?_
        refine lv_istore_n (lv' := [(2, .int m1), (1, .int b), (5, .int 4), (4, .int n0), (3, .int 1), (0, .ref (o 0))]) hx hb dX6_majority_84 rfl hl (by decide) rfl (fun ls hl => ?_)
        refine lv_iinc (v := 2) (lv' := [(3, .int 2), (2, .int m1), (1, .int b), (5, .int 4), (4, .int n0), (0, .ref (o 0))]) hx hb dX6_majority_85 hl (k := 4) rfl rfl (by decide) rfl (fun ls hl => ?_)
        refine lv_goto (tgt := 6) hx hb dX6_majority_88 (by decide) ?_
        exact LO_2 b m1 (by rw [← ht]; simp only [mjL]; rw [if_pos (show cwM (mZ r) (mZ r 15) 4 8 0 ≤ m1 from by rw [← ht2]; exact c_30)]) ls _ _ hP hD hS (lv_sub hl [0, 1, 2, 5] rfl)
      · refine lv_aload_n hx hb dX6_majority_61 rfl (lv_at hl 5 rfl) ?_
        refine lv_iload_n hx hb dX6_majority_62 rfl (lv_at hl 2 rfl) ?_
        refine lv_iconst (v := 0) hx hb dX6_majority_63 (by decide) ?_
        refine x_goI (wn := MW g o r) (x_rV (As := [.int 1, .int 0]) X (c_X6_of l g o r 1 0 (by decide) (by decide)  _) yf_X6_of yi_X6_of wM_X6_56 ⟨Nat.le_of_ble_eq_true rfl, Nat.le_of_ble_eq_true rfl⟩ hP hD (p_all _) 0 rfl rfl hl rfl rfl (Nat.le_of_ble_eq_true rfl) dX6_majority_64 ⟨Nat.zero_le _, Nat.zero_le _⟩) hP hD hS hA (p_all _) (p_back _) (fun H locs hP hD hS => ?_)
        refine lv_goto (tgt := 71) hx hb dX6_majority_67 (by decide) ?_
        refine lv_istore_n (lv' := [(1, .int ((mZ r) 15)), (5, .int 4), (4, .int n0), (3, .int 1), (2, .int m1), (0, .ref (o 0))]) hx hb dX6_majority_71 rfl hl (by decide) rfl (fun ls hl => ?_)
        refine lv_iload hx hb dX6_majority_72 (lv_at hl 2 rfl) ?_
        refine lv_iload_n hx hb dX6_majority_74 rfl (lv_at hl 4 rfl) ?_
        refine lv_icmp_le (tgt := 83) hx hb dX6_majority_75 (by decide) (fun q9 => absurd q9 (show ¬ n0 ≤ m1 from c_30)) (fun c_32 => ?_)
        refine lv_iload hx hb dX6_majority_78 (lv_at hl 2 rfl) ?_
        refine lv_goto (tgt := 84) hx hb dX6_majority_80 (by decide) ?_
        refine lv_istore_n (lv' := [(2, .int n0), (1, .int ((mZ r) 15)), (5, .int 4), (4, .int n0), (3, .int 1), (0, .ref (o 0))]) hx hb dX6_majority_84 rfl hl (by decide) rfl (fun ls hl => ?_)
        refine lv_iinc (v := 2) (lv' := [(3, .int 2), (2, .int n0), (1, .int ((mZ r) 15)), (5, .int 4), (4, .int n0), (0, .ref (o 0))]) hx hb dX6_majority_85 hl (k := 4) rfl rfl (by decide) rfl (fun ls hl => ?_)
        refine lv_goto (tgt := 6) hx hb dX6_majority_88 (by decide) ?_
        exact LO_2 (mZ r 15) n0 (by rw [← ht]; simp only [mjL]; rw [if_neg (show ¬ cwM (mZ r) (mZ r 15) 4 8 0 ≤ m1 from by rw [← ht2]; exact c_30)]; exact congrArg (mjL (mZ r) 2 22 (mZ r 15)) ht2) ls _ _ hP hD hS (lv_sub hl [0, 1, 2, 5] rfl)
    have LI1_3 : ∀ (n0 : Int32), cwM (mZ r) (mZ r 15) 1 29 n0 = cwM (mZ r) (mZ r 15) 4 8 0 → ∀ (ls : Array Slot) (H : Heap) (locs : List Loc), va_P g.1 vwCl (MW g o r) H → va_D A (MW g o r) → va_S A s.heap H locs → lv_has ls 6 [(5, .int 3), (4, .int n0), (3, .int 1), (2, .int m1), (1, .int b), (0, .ref (o 0))] → W p l e (rmD 1) s m args below meth c H locs 0 0 (MQ below (QI g A (mjL (mZ r) 4 8 0 0) (MW g o r)) args s 0 0 A) (F0 m 17 ls []) := by
      intro n0 ht2 ls H locs hP hD hS hl
      refine lv_iload hx hb dX6_majority_17 (lv_at hl 0 rfl) ?_
      refine lv_iconst (v := 4) hx hb dX6_majority_19 (by decide) ?_
      refine lv_icmp_ge (tgt := 55) hx hb dX6_majority_20 (by decide) (fun q9 => absurd q9 (show ¬ (4 : Int32) ≤ (3 : Int32) from (by decide))) (fun c_33 => ?_)
      refine lv_iload hx hb dX6_majority_23 (lv_at hl 1 rfl) ?_
      refine lv_aload_n hx hb dX6_majority_25 rfl (lv_at hl 5 rfl) ?_
      refine lv_iload hx hb dX6_majority_26 (lv_at hl 0 rfl) ?_
      refine lv_iconst (v := 0) hx hb dX6_majority_28 (by decide) ?_
      refine x_goI (wn := MW g o r) (x_rV (As := [.int 3, .int 0]) X (c_X6_of l g o r 3 0 (by decide) (by decide)  _) yf_X6_of yi_X6_of wM_X6_56 ⟨Nat.le_of_ble_eq_true rfl, Nat.le_of_ble_eq_true rfl⟩ hP hD (p_all _) 0 rfl rfl hl rfl rfl (Nat.le_of_ble_eq_true rfl) dX6_majority_29 ⟨Nat.zero_le _, Nat.zero_le _⟩) hP hD hS hA (p_all _) (p_back _) (fun H locs hP hD hS => ?_)
      refine lv_aload_n hx hb dX6_majority_32 rfl (lv_at hl 5 rfl) ?_
      refine lv_iload_n hx hb dX6_majority_33 rfl (lv_at hl 2 rfl) ?_
      refine lv_iconst (v := 0) hx hb dX6_majority_34 (by decide) ?_
      refine x_goI (wn := MW g o r) (x_rV (As := [.int 1, .int 0]) X (c_X6_of l g o r 1 0 (by decide) (by decide)  _) yf_X6_of yi_X6_of wM_X6_56 ⟨Nat.le_of_ble_eq_true rfl, Nat.le_of_ble_eq_true rfl⟩ hP hD (p_all _) 0 rfl rfl hl rfl rfl (Nat.le_of_ble_eq_true rfl) dX6_majority_35 ⟨Nat.zero_le _, Nat.zero_le _⟩) hP hD hS hA (p_all _) (p_back _) (fun H locs hP hD hS => ?_)
      refine lv_icmp_ne (tgt := 45) hx hb dX6_majority_38 (by decide) (fun (c_34 : ¬ ((mZ r) 29) = ((mZ r) 15)) => ?_) (fun (c_34 : ((mZ r) 29) = ((mZ r) 15)) => ?_)
      · refine lv_iconst (v := 0) hx hb dX6_majority_45 (by decide) ?_
        refine lv_iadd hx hb dX6_majority_46 ?_
        refine lv_istore (lv' := [(4, .int (n0 + 0)), (5, .int 3), (3, .int 1), (2, .int m1), (1, .int b), (0, .ref (o 0))]) hx hb dX6_majority_47 hl (by decide) rfl (fun ls hl => ?_)
        refine lv_iinc (v := 4) (lv' := [(5, .int 4), (4, .int (n0 + 0)), (3, .int 1), (2, .int m1), (1, .int b), (0, .ref (o 0))]) hx hb dX6_majority_49 hl (k := 1) rfl rfl (by decide) rfl (fun ls hl => ?_)
        refine lv_goto (tgt := 17) hx hb dX6_majority_52 (by decide) ?_
        exact LI1_4 (n0 + 0) (by rw [← ht2]; simp only [cwM, if_neg c_34]) ls _ _ hP hD hS (lv_sub hl [0, 1, 2, 3, 4, 5] rfl)
      · refine lv_iconst (v := 1) hx hb dX6_majority_41 (by decide) ?_
        refine lv_goto (tgt := 46) hx hb dX6_majority_42 (by decide) ?_
        refine lv_iadd hx hb dX6_majority_46 ?_
        refine lv_istore (lv' := [(4, .int (n0 + 1)), (5, .int 3), (3, .int 1), (2, .int m1), (1, .int b), (0, .ref (o 0))]) hx hb dX6_majority_47 hl (by decide) rfl (fun ls hl => ?_)
        refine lv_iinc (v := 4) (lv' := [(5, .int 4), (4, .int (n0 + 1)), (3, .int 1), (2, .int m1), (1, .int b), (0, .ref (o 0))]) hx hb dX6_majority_49 hl (k := 1) rfl rfl (by decide) rfl (fun ls hl => ?_)
        refine lv_goto (tgt := 17) hx hb dX6_majority_52 (by decide) ?_
        exact LI1_4 (n0 + 1) (by rw [← ht2]; simp only [cwM, if_pos c_34]) ls _ _ hP hD hS (lv_sub hl [0, 1, 2, 3, 4, 5] rfl)
    have LI1_2 : ∀ (n0 : Int32), cwM (mZ r) (mZ r 15) 2 22 n0 = cwM (mZ r) (mZ r 15) 4 8 0 → ∀ (ls : Array Slot) (H : Heap) (locs : List Loc), va_P g.1 vwCl (MW g o r) H → va_D A (MW g o r) → va_S A s.heap H locs → lv_has ls 6 [(5, .int 2), (4, .int n0), (3, .int 1), (2, .int m1), (1, .int b), (0, .ref (o 0))] → W p l e (rmD 1) s m args below meth c H locs 0 0 (MQ below (QI g A (mjL (mZ r) 4 8 0 0) (MW g o r)) args s 0 0 A) (F0 m 17 ls []) := by
      intro n0 ht2 ls H locs hP hD hS hl
      refine lv_iload hx hb dX6_majority_17 (lv_at hl 0 rfl) ?_
      refine lv_iconst (v := 4) hx hb dX6_majority_19 (by decide) ?_
      refine lv_icmp_ge (tgt := 55) hx hb dX6_majority_20 (by decide) (fun q9 => absurd q9 (show ¬ (4 : Int32) ≤ (2 : Int32) from (by decide))) (fun c_35 => ?_)
      refine lv_iload hx hb dX6_majority_23 (lv_at hl 1 rfl) ?_
      refine lv_aload_n hx hb dX6_majority_25 rfl (lv_at hl 5 rfl) ?_
      refine lv_iload hx hb dX6_majority_26 (lv_at hl 0 rfl) ?_
      refine lv_iconst (v := 0) hx hb dX6_majority_28 (by decide) ?_
      refine x_goI (wn := MW g o r) (x_rV (As := [.int 2, .int 0]) X (c_X6_of l g o r 2 0 (by decide) (by decide)  _) yf_X6_of yi_X6_of wM_X6_56 ⟨Nat.le_of_ble_eq_true rfl, Nat.le_of_ble_eq_true rfl⟩ hP hD (p_all _) 0 rfl rfl hl rfl rfl (Nat.le_of_ble_eq_true rfl) dX6_majority_29 ⟨Nat.zero_le _, Nat.zero_le _⟩) hP hD hS hA (p_all _) (p_back _) (fun H locs hP hD hS => ?_)
      refine lv_aload_n hx hb dX6_majority_32 rfl (lv_at hl 5 rfl) ?_
      refine lv_iload_n hx hb dX6_majority_33 rfl (lv_at hl 2 rfl) ?_
      refine lv_iconst (v := 0) hx hb dX6_majority_34 (by decide) ?_
      refine x_goI (wn := MW g o r) (x_rV (As := [.int 1, .int 0]) X (c_X6_of l g o r 1 0 (by decide) (by decide)  _) yf_X6_of yi_X6_of wM_X6_56 ⟨Nat.le_of_ble_eq_true rfl, Nat.le_of_ble_eq_true rfl⟩ hP hD (p_all _) 0 rfl rfl hl rfl rfl (Nat.le_of_ble_eq_true rfl) dX6_majority_35 ⟨Nat.zero_le _, Nat.zero_le _⟩) hP hD hS hA (p_all _) (p_back _) (fun H locs hP hD hS => ?_)
      refine lv_icmp_ne (tgt := 45) hx hb dX6_majority_38 (by decide) (fun (c_36 : ¬ ((mZ r) 22) = ((mZ r) 15)) => ?_) (fun (c_36 : ((mZ r) 22) = ((mZ r) 15)) => ?_)
      · refine lv_iconst (v := 0) hx hb dX6_majority_45 (by decide) ?_
        refine lv_iadd hx hb dX6_majority_46 ?_
        refine lv_istore (lv' := [(4, .int (n0 + 0)), (5, .int 2), (3, .int 1), (2, .int m1), (1, .int b), (0, .ref (o 0))]) hx hb dX6_majority_47 hl (by decide) rfl (fun ls hl => ?_)
        refine lv_iinc (v := 3) (lv' := [(5, .int 3), (4, .int (n0 + 0)), (3, .int 1), (2, .int m1), (1, .int b), (0, .ref (o 0))]) hx hb dX6_majority_49 hl (k := 1) rfl rfl (by decide) rfl (fun ls hl => ?_)
        refine lv_goto (tgt := 17) hx hb dX6_majority_52 (by decide) ?_
        exact LI1_3 (n0 + 0) (by rw [← ht2]; simp only [cwM, if_neg c_36]) ls _ _ hP hD hS (lv_sub hl [0, 1, 2, 3, 4, 5] rfl)
      · refine lv_iconst (v := 1) hx hb dX6_majority_41 (by decide) ?_
        refine lv_goto (tgt := 46) hx hb dX6_majority_42 (by decide) ?_
        refine lv_iadd hx hb dX6_majority_46 ?_
        refine lv_istore (lv' := [(4, .int (n0 + 1)), (5, .int 2), (3, .int 1), (2, .int m1), (1, .int b), (0, .ref (o 0))]) hx hb dX6_majority_47 hl (by decide) rfl (fun ls hl => ?_)
        refine lv_iinc (v := 3) (lv' := [(5, .int 3), (4, .int (n0 + 1)), (3, .int 1), (2, .int m1), (1, .int b), (0, .ref (o 0))]) hx hb dX6_majority_49 hl (k := 1) rfl rfl (by decide) rfl (fun ls hl => ?_)
        refine lv_goto (tgt := 17) hx hb dX6_majority_52 (by decide) ?_
        exact LI1_3 (n0 + 1) (by rw [← ht2]; simp only [cwM, if_pos c_36]) ls _ _ hP hD hS (lv_sub hl [0, 1, 2, 3, 4, 5] rfl)
    have LI1_1 : ∀ (n0 : Int32), cwM (mZ r) (mZ r 15) 3 15 n0 = cwM (mZ r) (mZ r 15) 4 8 0 → ∀ (ls : Array Slot) (H : Heap) (locs : List Loc), va_P g.1 vwCl (MW g o r) H → va_D A (MW g o r) → va_S A s.heap H locs → lv_has ls 6 [(5, .int 1), (4, .int n0), (3, .int 1), (2, .int m1), (1, .int b), (0, .ref (o 0))] → W p l e (rmD 1) s m args below meth c H locs 0 0 (MQ below (QI g A (mjL (mZ r) 4 8 0 0) (MW g o r)) args s 0 0 A) (F0 m 17 ls []) := by
      intro n0 ht2 ls H locs hP hD hS hl
      refine lv_iload hx hb dX6_majority_17 (lv_at hl 0 rfl) ?_
      refine lv_iconst (v := 4) hx hb dX6_majority_19 (by decide) ?_
      refine lv_icmp_ge (tgt := 55) hx hb dX6_majority_20 (by decide) (fun q9 => absurd q9 (show ¬ (4 : Int32) ≤ (1 : Int32) from (by decide))) (fun c_37 => ?_)
      refine lv_iload hx hb dX6_majority_23 (lv_at hl 1 rfl) ?_
      refine lv_aload_n hx hb dX6_majority_25 rfl (lv_at hl 5 rfl) ?_
      refine lv_iload hx hb dX6_majority_26 (lv_at hl 0 rfl) ?_
      refine lv_iconst (v := 0) hx hb dX6_majority_28 (by decide) ?_
      refine x_goI (wn := MW g o r) (x_rV (As := [.int 1, .int 0]) X (c_X6_of l g o r 1 0 (by decide) (by decide)  _) yf_X6_of yi_X6_of wM_X6_56 ⟨Nat.le_of_ble_eq_true rfl, Nat.le_of_ble_eq_true rfl⟩ hP hD (p_all _) 0 rfl rfl hl rfl rfl (Nat.le_of_ble_eq_true rfl) dX6_majority_29 ⟨Nat.zero_le _, Nat.zero_le _⟩) hP hD hS hA (p_all _) (p_back _) (fun H locs hP hD hS => ?_)
      refine lv_aload_n hx hb dX6_majority_32 rfl (lv_at hl 5 rfl) ?_
      refine lv_iload_n hx hb dX6_majority_33 rfl (lv_at hl 2 rfl) ?_
      refine lv_iconst (v := 0) hx hb dX6_majority_34 (by decide) ?_
      refine x_goI (wn := MW g o r) (x_rV (As := [.int 1, .int 0]) X (c_X6_of l g o r 1 0 (by decide) (by decide)  _) yf_X6_of yi_X6_of wM_X6_56 ⟨Nat.le_of_ble_eq_true rfl, Nat.le_of_ble_eq_true rfl⟩ hP hD (p_all _) 0 rfl rfl hl rfl rfl (Nat.le_of_ble_eq_true rfl) dX6_majority_35 ⟨Nat.zero_le _, Nat.zero_le _⟩) hP hD hS hA (p_all _) (p_back _) (fun H locs hP hD hS => ?_)
      refine lv_icmp_ne (tgt := 45) hx hb dX6_majority_38 (by decide) (fun q9 => absurd (show ((mZ r) 15) = ((mZ r) 15) from rfl) q9) (fun c_38 => ?_)
      refine lv_iconst (v := 1) hx hb dX6_majority_41 (by decide) ?_
      refine lv_goto (tgt := 46) hx hb dX6_majority_42 (by decide) ?_
      refine lv_iadd hx hb dX6_majority_46 ?_
      refine lv_istore (lv' := [(4, .int (n0 + 1)), (5, .int 1), (3, .int 1), (2, .int m1), (1, .int b), (0, .ref (o 0))]) hx hb dX6_majority_47 hl (by decide) rfl (fun ls hl => ?_)
      refine lv_iinc (v := 2) (lv' := [(5, .int 2), (4, .int (n0 + 1)), (3, .int 1), (2, .int m1), (1, .int b), (0, .ref (o 0))]) hx hb dX6_majority_49 hl (k := 1) rfl rfl (by decide) rfl (fun ls hl => ?_)
      refine lv_goto (tgt := 17) hx hb dX6_majority_52 (by decide) ?_
      exact LI1_2 (n0 + 1) (by rw [← ht2]; simp only [cwM, if_true]) ls _ _ hP hD hS (lv_sub hl [0, 1, 2, 3, 4, 5] rfl)
    have LI1_0 : ∀ (n0 : Int32), cwM (mZ r) (mZ r 15) 4 8 n0 = cwM (mZ r) (mZ r 15) 4 8 0 → ∀ (ls : Array Slot) (H : Heap) (locs : List Loc), va_P g.1 vwCl (MW g o r) H → va_D A (MW g o r) → va_S A s.heap H locs → lv_has ls 6 [(5, .int 0), (4, .int n0), (3, .int 1), (2, .int m1), (1, .int b), (0, .ref (o 0))] → W p l e (rmD 1) s m args below meth c H locs 0 0 (MQ below (QI g A (mjL (mZ r) 4 8 0 0) (MW g o r)) args s 0 0 A) (F0 m 17 ls []) := by
      intro n0 ht2 ls H locs hP hD hS hl
      refine lv_iload hx hb dX6_majority_17 (lv_at hl 0 rfl) ?_
      refine lv_iconst (v := 4) hx hb dX6_majority_19 (by decide) ?_
      refine lv_icmp_ge (tgt := 55) hx hb dX6_majority_20 (by decide) (fun q9 => absurd q9 (show ¬ (4 : Int32) ≤ (0 : Int32) from (by decide))) (fun c_39 => ?_)
      refine lv_iload hx hb dX6_majority_23 (lv_at hl 1 rfl) ?_
      refine lv_aload_n hx hb dX6_majority_25 rfl (lv_at hl 5 rfl) ?_
      refine lv_iload hx hb dX6_majority_26 (lv_at hl 0 rfl) ?_
      refine lv_iconst (v := 0) hx hb dX6_majority_28 (by decide) ?_
      refine x_goI (wn := MW g o r) (x_rV (As := [.int 0, .int 0]) X (c_X6_of l g o r 0 0 (by decide) (by decide)  _) yf_X6_of yi_X6_of wM_X6_56 ⟨Nat.le_of_ble_eq_true rfl, Nat.le_of_ble_eq_true rfl⟩ hP hD (p_all _) 0 rfl rfl hl rfl rfl (Nat.le_of_ble_eq_true rfl) dX6_majority_29 ⟨Nat.zero_le _, Nat.zero_le _⟩) hP hD hS hA (p_all _) (p_back _) (fun H locs hP hD hS => ?_)
      refine lv_aload_n hx hb dX6_majority_32 rfl (lv_at hl 5 rfl) ?_
      refine lv_iload_n hx hb dX6_majority_33 rfl (lv_at hl 2 rfl) ?_
      refine lv_iconst (v := 0) hx hb dX6_majority_34 (by decide) ?_
      refine x_goI (wn := MW g o r) (x_rV (As := [.int 1, .int 0]) X (c_X6_of l g o r 1 0 (by decide) (by decide)  _) yf_X6_of yi_X6_of wM_X6_56 ⟨Nat.le_of_ble_eq_true rfl, Nat.le_of_ble_eq_true rfl⟩ hP hD (p_all _) 0 rfl rfl hl rfl rfl (Nat.le_of_ble_eq_true rfl) dX6_majority_35 ⟨Nat.zero_le _, Nat.zero_le _⟩) hP hD hS hA (p_all _) (p_back _) (fun H locs hP hD hS => ?_)
      refine lv_icmp_ne (tgt := 45) hx hb dX6_majority_38 (by decide) (fun (c_40 : ¬ ((mZ r) 8) = ((mZ r) 15)) => ?_) (fun (c_40 : ((mZ r) 8) = ((mZ r) 15)) => ?_)
      · refine lv_iconst (v := 0) hx hb dX6_majority_45 (by decide) ?_
        refine lv_iadd hx hb dX6_majority_46 ?_
        refine lv_istore (lv' := [(4, .int (n0 + 0)), (5, .int 0), (3, .int 1), (2, .int m1), (1, .int b), (0, .ref (o 0))]) hx hb dX6_majority_47 hl (by decide) rfl (fun ls hl => ?_)
        refine lv_iinc (v := 1) (lv' := [(5, .int 1), (4, .int (n0 + 0)), (3, .int 1), (2, .int m1), (1, .int b), (0, .ref (o 0))]) hx hb dX6_majority_49 hl (k := 1) rfl rfl (by decide) rfl (fun ls hl => ?_)
        refine lv_goto (tgt := 17) hx hb dX6_majority_52 (by decide) ?_
        exact LI1_1 (n0 + 0) (by rw [← ht2]; simp only [cwM, if_neg c_40]) ls _ _ hP hD hS (lv_sub hl [0, 1, 2, 3, 4, 5] rfl)
      · refine lv_iconst (v := 1) hx hb dX6_majority_41 (by decide) ?_
        refine lv_goto (tgt := 46) hx hb dX6_majority_42 (by decide) ?_
        refine lv_iadd hx hb dX6_majority_46 ?_
        refine lv_istore (lv' := [(4, .int (n0 + 1)), (5, .int 0), (3, .int 1), (2, .int m1), (1, .int b), (0, .ref (o 0))]) hx hb dX6_majority_47 hl (by decide) rfl (fun ls hl => ?_)
        refine lv_iinc (v := 1) (lv' := [(5, .int 1), (4, .int (n0 + 1)), (3, .int 1), (2, .int m1), (1, .int b), (0, .ref (o 0))]) hx hb dX6_majority_49 hl (k := 1) rfl rfl (by decide) rfl (fun ls hl => ?_)
        refine lv_goto (tgt := 17) hx hb dX6_majority_52 (by decide) ?_
        exact LI1_1 (n0 + 1) (by rw [← ht2]; simp only [cwM, if_pos c_40]) ls _ _ hP hD hS (lv_sub hl [0, 1, 2, 3, 4, 5] rfl)
    exact LI1_0 0 rfl ls _ _ hP hD hS (lv_sub hl [0, 1, 2, 3, 4, 5] rfl)
  have LO_0 : ∀ (b : Int32) (m1 : Int32), mjL (mZ r) 4 8 b m1 = mjL (mZ r) 4 8 0 0 → ∀ (ls : Array Slot) (H : Heap) (locs : List Loc), va_P g.1 vwCl (MW g o r) H → va_D A (MW g o r) → va_S A s.heap H locs → lv_has ls 6 [(3, .int 0), (2, .int m1), (1, .int b), (0, .ref (o 0))] → W p l e (rmD 1) s m args below meth c H locs 0 0 (MQ below (QI g A (mjL (mZ r) 4 8 0 0) (MW g o r)) args s 0 0 A) (F0 m 6 ls []) := by
    intro b m1 ht ls H locs hP hD hS hl
    refine lv_iload_n hx hb dX6_majority_6 rfl (lv_at hl 0 rfl) ?_
    refine lv_iconst (v := 4) hx hb dX6_majority_7 (by decide) ?_
    refine lv_icmp_ge (tgt := 91) hx hb dX6_majority_8 (by decide) (fun q9 => absurd q9 (show ¬ (4 : Int32) ≤ (0 : Int32) from (by decide))) (fun c_41 => ?_)
    refine lv_iconst (v := 0) hx hb dX6_majority_11 (by decide) ?_
    refine lv_istore (lv' := [(4, .int 0), (3, .int 0), (2, .int m1), (1, .int b), (0, .ref (o 0))]) hx hb dX6_majority_12 hl (by decide) rfl (fun ls hl => ?_)
    refine lv_iconst (v := 0) hx hb dX6_majority_14 (by decide) ?_
    refine lv_istore (lv' := [(5, .int 0), (4, .int 0), (3, .int 0), (2, .int m1), (1, .int b), (0, .ref (o 0))]) hx hb dX6_majority_15 hl (by decide) rfl (fun ls hl => ?_)
    have LI0_4 : ∀ (n0 : Int32), cwM (mZ r) (mZ r 8) 0 36 n0 = cwM (mZ r) (mZ r 8) 4 8 0 → ∀ (ls : Array Slot) (H : Heap) (locs : List Loc), va_P g.1 vwCl (MW g o r) H → va_D A (MW g o r) → va_S A s.heap H locs → lv_has ls 6 [(5, .int 4), (4, .int n0), (3, .int 0), (2, .int m1), (1, .int b), (0, .ref (o 0))] → W p l e (rmD 1) s m args below meth c H locs 0 0 (MQ below (QI g A (mjL (mZ r) 4 8 0 0) (MW g o r)) args s 0 0 A) (F0 m 17 ls []) := by
      intro n0 ht2 ls H locs hP hD hS hl
      refine lv_iload hx hb dX6_majority_17 (lv_at hl 0 rfl) ?_
      refine lv_iconst (v := 4) hx hb dX6_majority_19 (by decide) ?_
      refine lv_icmp_ge (tgt := 55) hx hb dX6_majority_20 (by decide) (fun c_42 => ?_) (fun q9 => absurd (show (4 : Int32) ≤ (4 : Int32) from (by decide)) (show ¬ ((4 : Int32) ≤ (4 : Int32)) from q9))
      refine lv_iload hx hb dX6_majority_55 (lv_at hl 1 rfl) ?_
      refine lv_iload_n hx hb dX6_majority_57 rfl (lv_at hl 3 rfl) ?_
      refine lv_icmp_le (tgt := 70) hx hb dX6_majority_58 (by decide) (fun (c_43 : n0 ≤ m1) => ?_) (fun (c_43 : ¬ n0 ≤ m1) => ?_)
      · refine lv_iload_n hx hb dX6_majority_70 rfl (lv_at hl 4 rfl) ?_
        refine lv_istore_n (lv' := [(1, .int b), (5, .int 4), (4, .int n0), (3, .int 0), (2, .int m1), (0, .ref (o 0))]) hx hb dX6_majority_71 rfl hl (by decide) rfl (fun ls hl => ?_)
        refine lv_iload hx hb dX6_majority_72 (lv_at hl 2 rfl) ?_
        refine lv_iload_n hx hb dX6_majority_74 rfl (lv_at hl 4 rfl) ?_
        refine lv_icmp_le (tgt := 83) hx hb dX6_majority_75 (by decide) (fun c_44 => ?_) (fun q9 => absurd (show n0 ≤ m1 from c_43) (show ¬ (n0 ≤ m1) from q9))
        refine lv_iload_n hx hb dX6_majority_83 rfl (lv_at hl 4 rfl) ?_
        refine lv_istore_n (lv' := [(2, .int m1), (1, .int b), (5, .int 4), (4, .int n0), (3, .int 0), (0, .ref (o 0))]) hx hb dX6_majority_84 rfl hl (by decide) rfl (fun ls hl => ?_)
        refine lv_iinc (v := 1) (lv' := [(3, .int 1), (2, .int m1), (1, .int b), (5, .int 4), (4, .int n0), (0, .ref (o 0))]) hx hb dX6_majority_85 hl (k := 4) rfl rfl (by decide) rfl (fun ls hl => ?_)
        refine lv_goto (tgt := 6) hx hb dX6_majority_88 (by decide) ?_
        exact LO_1 b m1 (by rw [← ht]; simp only [mjL]; rw [if_pos (show cwM (mZ r) (mZ r 8) 4 8 0 ≤ m1 from by rw [← ht2]; exact c_43)]) ls _ _ hP hD hS (lv_sub hl [0, 1, 2, 5] rfl)
      · refine lv_aload_n hx hb dX6_majority_61 rfl (lv_at hl 5 rfl) ?_
        refine lv_iload_n hx hb dX6_majority_62 rfl (lv_at hl 2 rfl) ?_
        refine lv_iconst (v := 0) hx hb dX6_majority_63 (by decide) ?_
        refine x_goI (wn := MW g o r) (x_rV (As := [.int 0, .int 0]) X (c_X6_of l g o r 0 0 (by decide) (by decide)  _) yf_X6_of yi_X6_of wM_X6_56 ⟨Nat.le_of_ble_eq_true rfl, Nat.le_of_ble_eq_true rfl⟩ hP hD (p_all _) 0 rfl rfl hl rfl rfl (Nat.le_of_ble_eq_true rfl) dX6_majority_64 ⟨Nat.zero_le _, Nat.zero_le _⟩) hP hD hS hA (p_all _) (p_back _) (fun H locs hP hD hS => ?_)
        refine lv_goto (tgt := 71) hx hb dX6_majority_67 (by decide) ?_
        refine lv_istore_n (lv' := [(1, .int ((mZ r) 8)), (5, .int 4), (4, .int n0), (3, .int 0), (2, .int m1), (0, .ref (o 0))]) hx hb dX6_majority_71 rfl hl (by decide) rfl (fun ls hl => ?_)
        refine lv_iload hx hb dX6_majority_72 (lv_at hl 2 rfl) ?_
        refine lv_iload_n hx hb dX6_majority_74 rfl (lv_at hl 4 rfl) ?_
        refine lv_icmp_le (tgt := 83) hx hb dX6_majority_75 (by decide) (fun q9 => absurd q9 (show ¬ n0 ≤ m1 from c_43)) (fun c_45 => ?_)
        refine lv_iload hx hb dX6_majority_78 (lv_at hl 2 rfl) ?_
        refine lv_goto (tgt := 84) hx hb dX6_majority_80 (by decide) ?_
        refine lv_istore_n (lv' := [(2, .int n0), (1, .int ((mZ r) 8)), (5, .int 4), (4, .int n0), (3, .int 0), (0, .ref (o 0))]) hx hb dX6_majority_84 rfl hl (by decide) rfl (fun ls hl => ?_)
        refine lv_iinc (v := 1) (lv' := [(3, .int 1), (2, .int n0), (1, .int ((mZ r) 8)), (5, .int 4), (4, .int n0), (0, .ref (o 0))]) hx hb dX6_majority_85 hl (k := 4) rfl rfl (by decide) rfl (fun ls hl => ?_)
        refine lv_goto (tgt := 6) hx hb dX6_majority_88 (by decide) ?_
        exact LO_1 (mZ r 8) n0 (by rw [← ht]; simp only [mjL]; rw [if_neg (show ¬ cwM (mZ r) (mZ r 8) 4 8 0 ≤ m1 from by rw [← ht2]; exact c_43)]; exact congrArg (mjL (mZ r) 3 15 (mZ r 8)) ht2) ls _ _ hP hD hS (lv_sub hl [0, 1, 2, 5] rfl)
    have LI0_3 : ∀ (n0 : Int32), cwM (mZ r) (mZ r 8) 1 29 n0 = cwM (mZ r) (mZ r 8) 4 8 0 → ∀ (ls : Array Slot) (H : Heap) (locs : List Loc), va_P g.1 vwCl (MW g o r) H → va_D A (MW g o r) → va_S A s.heap H locs → lv_has ls 6 [(5, .int 3), (4, .int n0), (3, .int 0), (2, .int m1), (1, .int b), (0, .ref (o 0))] → W p l e (rmD 1) s m args below meth c H locs 0 0 (MQ below (QI g A (mjL (mZ r) 4 8 0 0) (MW g o r)) args s 0 0 A) (F0 m 17 ls []) := by
      intro n0 ht2 ls H locs hP hD hS hl
      refine lv_iload hx hb dX6_majority_17 (lv_at hl 0 rfl) ?_
      refine lv_iconst (v := 4) hx hb dX6_majority_19 (by decide) ?_
      refine lv_icmp_ge (tgt := 55) hx hb dX6_majority_20 (by decide) (fun q9 => absurd q9 (show ¬ (4 : Int32) ≤ (3 : Int32) from (by decide))) (fun c_46 => ?_)
      refine lv_iload hx hb dX6_majority_23 (lv_at hl 1 rfl) ?_
      refine lv_aload_n hx hb dX6_majority_25 rfl (lv_at hl 5 rfl) ?_
      refine lv_iload hx hb dX6_majority_26 (lv_at hl 0 rfl) ?_
      refine lv_iconst (v := 0) hx hb dX6_majority_28 (by decide) ?_
      refine x_goI (wn := MW g o r) (x_rV (As := [.int 3, .int 0]) X (c_X6_of l g o r 3 0 (by decide) (by decide)  _) yf_X6_of yi_X6_of wM_X6_56 ⟨Nat.le_of_ble_eq_true rfl, Nat.le_of_ble_eq_true rfl⟩ hP hD (p_all _) 0 rfl rfl hl rfl rfl (Nat.le_of_ble_eq_true rfl) dX6_majority_29 ⟨Nat.zero_le _, Nat.zero_le _⟩) hP hD hS hA (p_all _) (p_back _) (fun H locs hP hD hS => ?_)
      refine lv_aload_n hx hb dX6_majority_32 rfl (lv_at hl 5 rfl) ?_
      refine lv_iload_n hx hb dX6_majority_33 rfl (lv_at hl 2 rfl) ?_
      refine lv_iconst (v := 0) hx hb dX6_majority_34 (by decide) ?_
      refine x_goI (wn := MW g o r) (x_rV (As := [.int 0, .int 0]) X (c_X6_of l g o r 0 0 (by decide) (by decide)  _) yf_X6_of yi_X6_of wM_X6_56 ⟨Nat.le_of_ble_eq_true rfl, Nat.le_of_ble_eq_true rfl⟩ hP hD (p_all _) 0 rfl rfl hl rfl rfl (Nat.le_of_ble_eq_true rfl) dX6_majority_35 ⟨Nat.zero_le _, Nat.zero_le _⟩) hP hD hS hA (p_all _) (p_back _) (fun H locs hP hD hS => ?_)
      refine lv_icmp_ne (tgt := 45) hx hb dX6_majority_38 (by decide) (fun (c_47 : ¬ ((mZ r) 29) = ((mZ r) 8)) => ?_) (fun (c_47 : ((mZ r) 29) = ((mZ r) 8)) => ?_)
      · refine lv_iconst (v := 0) hx hb dX6_majority_45 (by decide) ?_
        refine lv_iadd hx hb dX6_majority_46 ?_
        refine lv_istore (lv' := [(4, .int (n0 + 0)), (5, .int 3), (3, .int 0), (2, .int m1), (1, .int b), (0, .ref (o 0))]) hx hb dX6_majority_47 hl (by decide) rfl (fun ls hl => ?_)
        refine lv_iinc (v := 4) (lv' := [(5, .int 4), (4, .int (n0 + 0)), (3, .int 0), (2, .int m1), (1, .int b), (0, .ref (o 0))]) hx hb dX6_majority_49 hl (k := 1) rfl rfl (by decide) rfl (fun ls hl => ?_)
        refine lv_goto (tgt := 17) hx hb dX6_majority_52 (by decide) ?_
        exact LI0_4 (n0 + 0) (by rw [← ht2]; simp only [cwM, if_neg c_47]) ls _ _ hP hD hS (lv_sub hl [0, 1, 2, 3, 4, 5] rfl)
      · refine lv_iconst (v := 1) hx hb dX6_majority_41 (by decide) ?_
        refine lv_goto (tgt := 46) hx hb dX6_majority_42 (by decide) ?_
        refine lv_iadd hx hb dX6_majority_46 ?_
        refine lv_istore (lv' := [(4, .int (n0 + 1)), (5, .int 3), (3, .int 0), (2, .int m1), (1, .int b), (0, .ref (o 0))]) hx hb dX6_majority_47 hl (by decide) rfl (fun ls hl => ?_)
        refine lv_iinc (v := 4) (lv' := [(5, .int 4), (4, .int (n0 + 1)), (3, .int 0), (2, .int m1), (1, .int b), (0, .ref (o 0))]) hx hb dX6_majority_49 hl (k := 1) rfl rfl (by decide) rfl (fun ls hl => ?_)
        refine lv_goto (tgt := 17) hx hb dX6_majority_52 (by decide) ?_
        exact LI0_4 (n0 + 1) (by rw [← ht2]; simp only [cwM, if_pos c_47]) ls _ _ hP hD hS (lv_sub hl [0, 1, 2, 3, 4, 5] rfl)
    have LI0_2 : ∀ (n0 : Int32), cwM (mZ r) (mZ r 8) 2 22 n0 = cwM (mZ r) (mZ r 8) 4 8 0 → ∀ (ls : Array Slot) (H : Heap) (locs : List Loc), va_P g.1 vwCl (MW g o r) H → va_D A (MW g o r) → va_S A s.heap H locs → lv_has ls 6 [(5, .int 2), (4, .int n0), (3, .int 0), (2, .int m1), (1, .int b), (0, .ref (o 0))] → W p l e (rmD 1) s m args below meth c H locs 0 0 (MQ below (QI g A (mjL (mZ r) 4 8 0 0) (MW g o r)) args s 0 0 A) (F0 m 17 ls []) := by
      intro n0 ht2 ls H locs hP hD hS hl
      refine lv_iload hx hb dX6_majority_17 (lv_at hl 0 rfl) ?_
      refine lv_iconst (v := 4) hx hb dX6_majority_19 (by decide) ?_
      refine lv_icmp_ge (tgt := 55) hx hb dX6_majority_20 (by decide) (fun q9 => absurd q9 (show ¬ (4 : Int32) ≤ (2 : Int32) from (by decide))) (fun c_48 => ?_)
      refine lv_iload hx hb dX6_majority_23 (lv_at hl 1 rfl) ?_
      refine lv_aload_n hx hb dX6_majority_25 rfl (lv_at hl 5 rfl) ?_
      refine lv_iload hx hb dX6_majority_26 (lv_at hl 0 rfl) ?_
      refine lv_iconst (v := 0) hx hb dX6_majority_28 (by decide) ?_
      refine x_goI (wn := MW g o r) (x_rV (As := [.int 2, .int 0]) X (c_X6_of l g o r 2 0 (by decide) (by decide)  _) yf_X6_of yi_X6_of wM_X6_56 ⟨Nat.le_of_ble_eq_true rfl, Nat.le_of_ble_eq_true rfl⟩ hP hD (p_all _) 0 rfl rfl hl rfl rfl (Nat.le_of_ble_eq_true rfl) dX6_majority_29 ⟨Nat.zero_le _, Nat.zero_le _⟩) hP hD hS hA (p_all _) (p_back _) (fun H locs hP hD hS => ?_)
      refine lv_aload_n hx hb dX6_majority_32 rfl (lv_at hl 5 rfl) ?_
      refine lv_iload_n hx hb dX6_majority_33 rfl (lv_at hl 2 rfl) ?_
      refine lv_iconst (v := 0) hx hb dX6_majority_34 (by decide) ?_
      refine x_goI (wn := MW g o r) (x_rV (As := [.int 0, .int 0]) X (c_X6_of l g o r 0 0 (by decide) (by decide)  _) yf_X6_of yi_X6_of wM_X6_56 ⟨Nat.le_of_ble_eq_true rfl, Nat.le_of_ble_eq_true rfl⟩ hP hD (p_all _) 0 rfl rfl hl rfl rfl (Nat.le_of_ble_eq_true rfl) dX6_majority_35 ⟨Nat.zero_le _, Nat.zero_le _⟩) hP hD hS hA (p_all _) (p_back _) (fun H locs hP hD hS => ?_)
      refine lv_icmp_ne (tgt := 45) hx hb dX6_majority_38 (by decide) (fun (c_49 : ¬ ((mZ r) 22) = ((mZ r) 8)) => ?_) (fun (c_49 : ((mZ r) 22) = ((mZ r) 8)) => ?_)
      · refine lv_iconst (v := 0) hx hb dX6_majority_45 (by decide) ?_
        refine lv_iadd hx hb dX6_majority_46 ?_
        refine lv_istore (lv' := [(4, .int (n0 + 0)), (5, .int 2), (3, .int 0), (2, .int m1), (1, .int b), (0, .ref (o 0))]) hx hb dX6_majority_47 hl (by decide) rfl (fun ls hl => ?_)
        refine lv_iinc (v := 3) (lv' := [(5, .int 3), (4, .int (n0 + 0)), (3, .int 0), (2, .int m1), (1, .int b), (0, .ref (o 0))]) hx hb dX6_majority_49 hl (k := 1) rfl rfl (by decide) rfl (fun ls hl => ?_)
        refine lv_goto (tgt := 17) hx hb dX6_majority_52 (by decide) ?_
        exact LI0_3 (n0 + 0) (by rw [← ht2]; simp only [cwM, if_neg c_49]) ls _ _ hP hD hS (lv_sub hl [0, 1, 2, 3, 4, 5] rfl)
      · refine lv_iconst (v := 1) hx hb dX6_majority_41 (by decide) ?_
        refine lv_goto (tgt := 46) hx hb dX6_majority_42 (by decide) ?_
        refine lv_iadd hx hb dX6_majority_46 ?_
        refine lv_istore (lv' := [(4, .int (n0 + 1)), (5, .int 2), (3, .int 0), (2, .int m1), (1, .int b), (0, .ref (o 0))]) hx hb dX6_majority_47 hl (by decide) rfl (fun ls hl => ?_)
        refine lv_iinc (v := 3) (lv' := [(5, .int 3), (4, .int (n0 + 1)), (3, .int 0), (2, .int m1), (1, .int b), (0, .ref (o 0))]) hx hb dX6_majority_49 hl (k := 1) rfl rfl (by decide) rfl (fun ls hl => ?_)
        refine lv_goto (tgt := 17) hx hb dX6_majority_52 (by decide) ?_
        exact LI0_3 (n0 + 1) (by rw [← ht2]; simp only [cwM, if_pos c_49]) ls _ _ hP hD hS (lv_sub hl [0, 1, 2, 3, 4, 5] rfl)
    have LI0_1 : ∀ (n0 : Int32), cwM (mZ r) (mZ r 8) 3 15 n0 = cwM (mZ r) (mZ r 8) 4 8 0 → ∀ (ls : Array Slot) (H : Heap) (locs : List Loc), va_P g.1 vwCl (MW g o r) H → va_D A (MW g o r) → va_S A s.heap H locs → lv_has ls 6 [(5, .int 1), (4, .int n0), (3, .int 0), (2, .int m1), (1, .int b), (0, .ref (o 0))] → W p l e (rmD 1) s m args below meth c H locs 0 0 (MQ below (QI g A (mjL (mZ r) 4 8 0 0) (MW g o r)) args s 0 0 A) (F0 m 17 ls []) := by
      intro n0 ht2 ls H locs hP hD hS hl
      refine lv_iload hx hb dX6_majority_17 (lv_at hl 0 rfl) ?_
      refine lv_iconst (v := 4) hx hb dX6_majority_19 (by decide) ?_
      refine lv_icmp_ge (tgt := 55) hx hb dX6_majority_20 (by decide) (fun q9 => absurd q9 (show ¬ (4 : Int32) ≤ (1 : Int32) from (by decide))) (fun c_50 => ?_)
      refine lv_iload hx hb dX6_majority_23 (lv_at hl 1 rfl) ?_
      refine lv_aload_n hx hb dX6_majority_25 rfl (lv_at hl 5 rfl) ?_
      refine lv_iload hx hb dX6_majority_26 (lv_at hl 0 rfl) ?_
      refine lv_iconst (v := 0) hx hb dX6_majority_28 (by decide) ?_
      refine x_goI (wn := MW g o r) (x_rV (As := [.int 1, .int 0]) X (c_X6_of l g o r 1 0 (by decide) (by decide)  _) yf_X6_of yi_X6_of wM_X6_56 ⟨Nat.le_of_ble_eq_true rfl, Nat.le_of_ble_eq_true rfl⟩ hP hD (p_all _) 0 rfl rfl hl rfl rfl (Nat.le_of_ble_eq_true rfl) dX6_majority_29 ⟨Nat.zero_le _, Nat.zero_le _⟩) hP hD hS hA (p_all _) (p_back _) (fun H locs hP hD hS => ?_)
      refine lv_aload_n hx hb dX6_majority_32 rfl (lv_at hl 5 rfl) ?_
      refine lv_iload_n hx hb dX6_majority_33 rfl (lv_at hl 2 rfl) ?_
      refine lv_iconst (v := 0) hx hb dX6_majority_34 (by decide) ?_
      refine x_goI (wn := MW g o r) (x_rV (As := [.int 0, .int 0]) X (c_X6_of l g o r 0 0 (by decide) (by decide)  _) yf_X6_of yi_X6_of wM_X6_56 ⟨Nat.le_of_ble_eq_true rfl, Nat.le_of_ble_eq_true rfl⟩ hP hD (p_all _) 0 rfl rfl hl rfl rfl (Nat.le_of_ble_eq_true rfl) dX6_majority_35 ⟨Nat.zero_le _, Nat.zero_le _⟩) hP hD hS hA (p_all _) (p_back _) (fun H locs hP hD hS => ?_)
      refine lv_icmp_ne (tgt := 45) hx hb dX6_majority_38 (by decide) (fun (c_51 : ¬ ((mZ r) 15) = ((mZ r) 8)) => ?_) (fun (c_51 : ((mZ r) 15) = ((mZ r) 8)) => ?_)
      · refine lv_iconst (v := 0) hx hb dX6_majority_45 (by decide) ?_
        refine lv_iadd hx hb dX6_majority_46 ?_
        refine lv_istore (lv' := [(4, .int (n0 + 0)), (5, .int 1), (3, .int 0), (2, .int m1), (1, .int b), (0, .ref (o 0))]) hx hb dX6_majority_47 hl (by decide) rfl (fun ls hl => ?_)
        refine lv_iinc (v := 2) (lv' := [(5, .int 2), (4, .int (n0 + 0)), (3, .int 0), (2, .int m1), (1, .int b), (0, .ref (o 0))]) hx hb dX6_majority_49 hl (k := 1) rfl rfl (by decide) rfl (fun ls hl => ?_)
        refine lv_goto (tgt := 17) hx hb dX6_majority_52 (by decide) ?_
        exact LI0_2 (n0 + 0) (by rw [← ht2]; simp only [cwM, if_neg c_51]) ls _ _ hP hD hS (lv_sub hl [0, 1, 2, 3, 4, 5] rfl)
      · refine lv_iconst (v := 1) hx hb dX6_majority_41 (by decide) ?_
        refine lv_goto (tgt := 46) hx hb dX6_majority_42 (by decide) ?_
        refine lv_iadd hx hb dX6_majority_46 ?_
        refine lv_istore (lv' := [(4, .int (n0 + 1)), (5, .int 1), (3, .int 0), (2, .int m1), (1, .int b), (0, .ref (o 0))]) hx hb dX6_majority_47 hl (by decide) rfl (fun ls hl => ?_)
        refine lv_iinc (v := 2) (lv' := [(5, .int 2), (4, .int (n0 + 1)), (3, .int 0), (2, .int m1), (1, .int b), (0, .ref (o 0))]) hx hb dX6_majority_49 hl (k := 1) rfl rfl (by decide) rfl (fun ls hl => ?_)
        refine lv_goto (tgt := 17) hx hb dX6_majority_52 (by decide) ?_
        exact LI0_2 (n0 + 1) (by rw [← ht2]; simp only [cwM, if_pos c_51]) ls _ _ hP hD hS (lv_sub hl [0, 1, 2, 3, 4, 5] rfl)
    have LI0_0 : ∀ (n0 : Int32), cwM (mZ r) (mZ r 8) 4 8 n0 = cwM (mZ r) (mZ r 8) 4 8 0 → ∀ (ls : Array Slot) (H : Heap) (locs : List Loc), va_P g.1 vwCl (MW g o r) H → va_D A (MW g o r) → va_S A s.heap H locs → lv_has ls 6 [(5, .int 0), (4, .int n0), (3, .int 0), (2, .int m1), (1, .int b), (0, .ref (o 0))] → W p l e (rmD 1) s m args below meth c H locs 0 0 (MQ below (QI g A (mjL (mZ r) 4 8 0 0) (MW g o r)) args s 0 0 A) (F0 m 17 ls []) := by
      intro n0 ht2 ls H locs hP hD hS hl
      refine lv_iload hx hb dX6_majority_17 (lv_at hl 0 rfl) ?_
      refine lv_iconst (v := 4) hx hb dX6_majority_19 (by decide) ?_
      refine lv_icmp_ge (tgt := 55) hx hb dX6_majority_20 (by decide) (fun q9 => absurd q9 (show ¬ (4 : Int32) ≤ (0 : Int32) from (by decide))) (fun c_52 => ?_)
      refine lv_iload hx hb dX6_majority_23 (lv_at hl 1 rfl) ?_
      refine lv_aload_n hx hb dX6_majority_25 rfl (lv_at hl 5 rfl) ?_
      refine lv_iload hx hb dX6_majority_26 (lv_at hl 0 rfl) ?_
      refine lv_iconst (v := 0) hx hb dX6_majority_28 (by decide) ?_
      refine x_goI (wn := MW g o r) (x_rV (As := [.int 0, .int 0]) X (c_X6_of l g o r 0 0 (by decide) (by decide)  _) yf_X6_of yi_X6_of wM_X6_56 ⟨Nat.le_of_ble_eq_true rfl, Nat.le_of_ble_eq_true rfl⟩ hP hD (p_all _) 0 rfl rfl hl rfl rfl (Nat.le_of_ble_eq_true rfl) dX6_majority_29 ⟨Nat.zero_le _, Nat.zero_le _⟩) hP hD hS hA (p_all _) (p_back _) (fun H locs hP hD hS => ?_)
      refine lv_aload_n hx hb dX6_majority_32 rfl (lv_at hl 5 rfl) ?_
      refine lv_iload_n hx hb dX6_majority_33 rfl (lv_at hl 2 rfl) ?_
      refine lv_iconst (v := 0) hx hb dX6_majority_34 (by decide) ?_
      refine x_goI (wn := MW g o r) (x_rV (As := [.int 0, .int 0]) X (c_X6_of l g o r 0 0 (by decide) (by decide)  _) yf_X6_of yi_X6_of wM_X6_56 ⟨Nat.le_of_ble_eq_true rfl, Nat.le_of_ble_eq_true rfl⟩ hP hD (p_all _) 0 rfl rfl hl rfl rfl (Nat.le_of_ble_eq_true rfl) dX6_majority_35 ⟨Nat.zero_le _, Nat.zero_le _⟩) hP hD hS hA (p_all _) (p_back _) (fun H locs hP hD hS => ?_)
      refine lv_icmp_ne (tgt := 45) hx hb dX6_majority_38 (by decide) (fun q9 => absurd (show ((mZ r) 8) = ((mZ r) 8) from rfl) q9) (fun c_53 => ?_)
      refine lv_iconst (v := 1) hx hb dX6_majority_41 (by decide) ?_
      refine lv_goto (tgt := 46) hx hb dX6_majority_42 (by decide) ?_
      refine lv_iadd hx hb dX6_majority_46 ?_
      refine lv_istore (lv' := [(4, .int (n0 + 1)), (5, .int 0), (3, .int 0), (2, .int m1), (1, .int b), (0, .ref (o 0))]) hx hb dX6_majority_47 hl (by decide) rfl (fun ls hl => ?_)
      refine lv_iinc (v := 1) (lv' := [(5, .int 1), (4, .int (n0 + 1)), (3, .int 0), (2, .int m1), (1, .int b), (0, .ref (o 0))]) hx hb dX6_majority_49 hl (k := 1) rfl rfl (by decide) rfl (fun ls hl => ?_)
      refine lv_goto (tgt := 17) hx hb dX6_majority_52 (by decide) ?_
      exact LI0_1 (n0 + 1) (by rw [← ht2]; simp only [cwM, if_true]) ls _ _ hP hD hS (lv_sub hl [0, 1, 2, 3, 4, 5] rfl)
    exact LI0_0 0 rfl ls _ _ hP hD hS (lv_sub hl [0, 1, 2, 3, 4, 5] rfl)
  exact LO_0 0 0 rfl ls _ _ hP hD hS (lv_sub hl [0, 1, 2, 3] rfl)

def mTotal (r : MS) (a : Int32) : Int32 := if a = 0 then mZ r 0 else if a = 1 then jrem (mZ r 0) 1440 else if a = 2 then mZ r 4 else if a = 3 then mZ r 5 else if a = 4 then (((0 + mZ r 12) + mZ r 19) + mZ r 26) + mZ r 33 else if a = 5 then (((0 + mZ r 14) + mZ r 21) + mZ r 28) + mZ r 35 else if a = 6 then mZ r 6 else if a = 7 then mZ r 7 else if a = 8 then spM (mZ r) else -1002
set_option maxHeartbeats 4000000 in
set_option maxRecDepth 100000 in
theorem c_X6_total (l : Launch) (g : wG) (o : Nat → Nat) (r : MS) (a : Int32) : CtI l g 2 yX6_total cX6_total 2 (some .int) [.ref (o 0), .int a] (MW g o r) (mTotal r a) (MW g o r) := by
  intro sz
  refine x_enter (Qc := fun A => QI g A (mTotal r a) (MW g o r)) (by decide) (Nat.le_of_ble_eq_true rfl) ?_
  intro p e s m args below meth c X hr hlocks A hA hP hD hS ls hl
  obtain ⟨⟨hx, hb, hml, hown, hts⟩, hK, hN⟩ := id X
  have hl : lv_has ls 2 [(0, .ref (o 0)), (1, .int a)] := hl
  refine lv_iload_n hx hb dX6_total_0 rfl (lv_at hl 1 rfl) ?_
  by_cases k_1 : a = 0
  · refine lv_tableIn (off := 51) (tgt := 52) hx hb dX6_total_1 (by rw [k_1]; decide) (by rw [k_1]; decide) (by rw [k_1]; rfl) (by decide) ?_
    refine lv_aload_n hx hb dX6_total_52 rfl (lv_at hl 0 rfl) ?_
    refine x_get (v := .ref (o 1)) X 0 0 in_X6 hP rfl rfl (by decide) wF_X6_7 rfl rfl dX6_total_53 ?_
    refine lv_iconst (v := 0) hx hb dX6_total_56 (by decide) ?_
    refine x_iald (v := ((mZ r) 0)) X 1 0 hP rfl rfl (by decide) (Nat.le_of_ble_eq_true rfl) rfl dX6_total_57 ?_
    exact x_iret X hr hlocks hP hD hS (by simp only [mTotal, if_pos k_1]) dX6_total_58
  by_cases k_2 : a = 1
  · refine lv_tableIn (off := 58) (tgt := 59) hx hb dX6_total_1 (by rw [k_2]; decide) (by rw [k_2]; decide) (by rw [k_2]; rfl) (by decide) ?_
    refine lv_aload_n hx hb dX6_total_59 rfl (lv_at hl 0 rfl) ?_
    refine x_goI (wn := MW g o r) (x_rV (As := []) X (c_X6_minuteOfDay l g o r   _) yf_X6_minuteOfDay yi_X6_minuteOfDay wM_X6_79 ⟨Nat.le_of_ble_eq_true rfl, Nat.le_of_ble_eq_true rfl⟩ hP hD (p_all _) 0 rfl rfl hl rfl rfl (Nat.le_of_ble_eq_true rfl) dX6_total_60 ⟨Nat.zero_le _, Nat.zero_le _⟩) hP hD hS hA (p_all _) (p_back _) (fun H locs hP hD hS => ?_)
    exact x_iret X hr hlocks hP hD hS (by simp only [mTotal, if_neg k_1, if_pos k_2]) dX6_total_63
  by_cases k_3 : a = 2
  · refine lv_tableIn (off := 63) (tgt := 64) hx hb dX6_total_1 (by rw [k_3]; decide) (by rw [k_3]; decide) (by rw [k_3]; rfl) (by decide) ?_
    refine lv_aload_n hx hb dX6_total_64 rfl (lv_at hl 0 rfl) ?_
    refine x_get (v := .ref (o 1)) X 0 0 in_X6 hP rfl rfl (by decide) wF_X6_7 rfl rfl dX6_total_65 ?_
    refine lv_iconst (v := 4) hx hb dX6_total_68 (by decide) ?_
    refine x_iald (v := ((mZ r) 4)) X 1 4 hP rfl rfl (by decide) (Nat.le_of_ble_eq_true rfl) rfl dX6_total_69 ?_
    exact x_iret X hr hlocks hP hD hS (by simp only [mTotal, if_neg k_1, if_neg k_2, if_pos k_3]) dX6_total_70
  by_cases k_4 : a = 3
  · refine lv_tableIn (off := 70) (tgt := 71) hx hb dX6_total_1 (by rw [k_4]; decide) (by rw [k_4]; decide) (by rw [k_4]; rfl) (by decide) ?_
    refine lv_aload_n hx hb dX6_total_71 rfl (lv_at hl 0 rfl) ?_
    refine x_get (v := .ref (o 1)) X 0 0 in_X6 hP rfl rfl (by decide) wF_X6_7 rfl rfl dX6_total_72 ?_
    refine lv_iconst (v := 5) hx hb dX6_total_75 (by decide) ?_
    refine x_iald (v := ((mZ r) 5)) X 1 5 hP rfl rfl (by decide) (Nat.le_of_ble_eq_true rfl) rfl dX6_total_76 ?_
    exact x_iret X hr hlocks hP hD hS (by simp only [mTotal, if_neg k_1, if_neg k_2, if_neg k_3, if_pos k_4]) dX6_total_77
  by_cases k_5 : a = 4
  · refine lv_tableIn (off := 77) (tgt := 78) hx hb dX6_total_1 (by rw [k_5]; decide) (by rw [k_5]; decide) (by rw [k_5]; rfl) (by decide) ?_
    refine lv_aload_n hx hb dX6_total_78 rfl (lv_at hl 0 rfl) ?_
    refine lv_iconst (v := 4) hx hb dX6_total_79 (by decide) ?_
    refine x_goI (wn := MW g o r) (x_rV (As := [.int 4]) X (c_X6_sum_4 l g o r   _) yf_X6_sum yi_X6_sum wM_X6_120 ⟨Nat.le_of_ble_eq_true rfl, Nat.le_of_ble_eq_true rfl⟩ hP hD (p_all _) 0 rfl rfl hl rfl rfl (Nat.le_of_ble_eq_true rfl) dX6_total_80 ⟨Nat.zero_le _, Nat.zero_le _⟩) hP hD hS hA (p_all _) (p_back _) (fun H locs hP hD hS => ?_)
    exact x_iret X hr hlocks hP hD hS (by simp only [mTotal, if_neg k_1, if_neg k_2, if_neg k_3, if_neg k_4, if_pos k_5]) dX6_total_83
  by_cases k_6 : a = 5
  · refine lv_tableIn (off := 83) (tgt := 84) hx hb dX6_total_1 (by rw [k_6]; decide) (by rw [k_6]; decide) (by rw [k_6]; rfl) (by decide) ?_
    refine lv_aload_n hx hb dX6_total_84 rfl (lv_at hl 0 rfl) ?_
    refine lv_bipush (v := 6) hx hb dX6_total_85 (by decide) ?_
    refine x_goI (wn := MW g o r) (x_rV (As := [.int 6]) X (c_X6_sum_6 l g o r   _) yf_X6_sum yi_X6_sum wM_X6_120 ⟨Nat.le_of_ble_eq_true rfl, Nat.le_of_ble_eq_true rfl⟩ hP hD (p_all _) 0 rfl rfl hl rfl rfl (Nat.le_of_ble_eq_true rfl) dX6_total_87 ⟨Nat.zero_le _, Nat.zero_le _⟩) hP hD hS hA (p_all _) (p_back _) (fun H locs hP hD hS => ?_)
    exact x_iret X hr hlocks hP hD hS (by simp only [mTotal, if_neg k_1, if_neg k_2, if_neg k_3, if_neg k_4, if_neg k_5, if_pos k_6]) dX6_total_90
  by_cases k_7 : a = 6
  · refine lv_tableIn (off := 90) (tgt := 91) hx hb dX6_total_1 (by rw [k_7]; decide) (by rw [k_7]; decide) (by rw [k_7]; rfl) (by decide) ?_
    refine lv_aload_n hx hb dX6_total_91 rfl (lv_at hl 0 rfl) ?_
    refine x_get (v := .ref (o 1)) X 0 0 in_X6 hP rfl rfl (by decide) wF_X6_7 rfl rfl dX6_total_92 ?_
    refine lv_bipush (v := 6) hx hb dX6_total_95 (by decide) ?_
    refine x_iald (v := ((mZ r) 6)) X 1 6 hP rfl rfl (by decide) (Nat.le_of_ble_eq_true rfl) rfl dX6_total_97 ?_
    exact x_iret X hr hlocks hP hD hS (by simp only [mTotal, if_neg k_1, if_neg k_2, if_neg k_3, if_neg k_4, if_neg k_5, if_neg k_6, if_pos k_7]) dX6_total_98
  by_cases k_8 : a = 7
  · refine lv_tableIn (off := 98) (tgt := 99) hx hb dX6_total_1 (by rw [k_8]; decide) (by rw [k_8]; decide) (by rw [k_8]; rfl) (by decide) ?_
    refine lv_aload_n hx hb dX6_total_99 rfl (lv_at hl 0 rfl) ?_
    refine x_get (v := .ref (o 1)) X 0 0 in_X6 hP rfl rfl (by decide) wF_X6_7 rfl rfl dX6_total_100 ?_
    refine lv_bipush (v := 7) hx hb dX6_total_103 (by decide) ?_
    refine x_iald (v := ((mZ r) 7)) X 1 7 hP rfl rfl (by decide) (Nat.le_of_ble_eq_true rfl) rfl dX6_total_105 ?_
    exact x_iret X hr hlocks hP hD hS (by simp only [mTotal, if_neg k_1, if_neg k_2, if_neg k_3, if_neg k_4, if_neg k_5, if_neg k_6, if_neg k_7, if_pos k_8]) dX6_total_106
  by_cases k_9 : a = 8
  · refine lv_tableIn (off := 106) (tgt := 107) hx hb dX6_total_1 (by rw [k_9]; decide) (by rw [k_9]; decide) (by rw [k_9]; rfl) (by decide) ?_
    refine lv_aload_n hx hb dX6_total_107 rfl (lv_at hl 0 rfl) ?_
    refine x_goI (wn := MW g o r) (x_rV (As := []) X (c_X6_spread l g o r   _) yf_X6_spread yi_X6_spread wM_X6_123 ⟨Nat.le_of_ble_eq_true rfl, Nat.le_of_ble_eq_true rfl⟩ hP hD (p_all _) 0 rfl rfl hl rfl rfl (Nat.le_of_ble_eq_true rfl) dX6_total_108 ⟨Nat.zero_le _, Nat.zero_le _⟩) hP hD hS hA (p_all _) (p_back _) (fun H locs hP hD hS => ?_)
    exact x_iret X hr hlocks hP hD hS (by simp only [mTotal, if_neg k_1, if_neg k_2, if_neg k_3, if_neg k_4, if_neg k_5, if_neg k_6, if_neg k_7, if_neg k_8, if_pos k_9]) dX6_total_111
  refine lv_tableOut (tgt := 112) hx hb dX6_total_1 (by have z := fun (n : Int) (q : (a).toInt = n) => q; have y0 := lv_neT k_1 (a := 0) rfl; have y1 := lv_neT k_2 (a := 1) rfl; have y2 := lv_neT k_3 (a := 2) rfl; have y3 := lv_neT k_4 (a := 3) rfl; have y4 := lv_neT k_5 (a := 4) rfl; have y5 := lv_neT k_6 (a := 5) rfl; have y6 := lv_neT k_7 (a := 6) rfl; have y7 := lv_neT k_8 (a := 7) rfl; have y8 := lv_neT k_9 (a := 8) rfl; omega) (by decide) ?_
  refine lv_sipush (v := (-1002)) hx hb dX6_total_112 (by decide) ?_
  exact x_iret X hr hlocks hP hD hS (by simp only [mTotal, if_neg k_1, if_neg k_2, if_neg k_3, if_neg k_4, if_neg k_5, if_neg k_6, if_neg k_7, if_neg k_8, if_neg k_9]) dX6_total_115

def mFaceP (z : RI) (o : Nat) (b : Int32) : Int32 := if b = 7 then distM (z o) (jrem (z 0) 720) else if isw b 0 6 = 0 then -1002 else z (o + b.toNatClampNeg)
def mFace (r : MS) (a b : Int32) : Int32 := if isf a = 0 then -1001 else mFaceP (mZ r) (8 + 7 * a.toNatClampNeg) b
set_option maxHeartbeats 4000000 in
set_option maxRecDepth 100000 in
theorem c_X6_face_e (l : Launch) (g : wG) (o : Nat → Nat) (r : MS) (a b : Int32) (hi : isf a = 0) : CtI l g 2 yX6_face cX6_face 3 (some .int) [.ref (o 0), .int a, .int b] (MW g o r) (mFace r a b) (MW g o r) := by
  intro sz
  refine x_enter (Qc := fun A => QI g A (mFace r a b) (MW g o r)) (by decide) (Nat.le_of_ble_eq_true rfl) ?_
  intro p e s m args below meth c X hr hlocks A hA hP hD hS ls hl
  obtain ⟨⟨hx, hb, hml, hown, hts⟩, hK, hN⟩ := id X
  have hl : lv_has ls 3 [(0, .ref (o 0)), (1, .int a), (2, .int b)] := hl
  refine lv_iload_n hx hb dX6_face_0 rfl (lv_at hl 1 rfl) ?_
  refine x_goI (wn := MW g o r) (x_rS (As := [.int a]) X (c_X6_isFace l g a _) yf_X6_isFace ys_X6_isFace wM_X6_52 ⟨Nat.le_of_ble_eq_true rfl, Nat.le_of_ble_eq_true rfl⟩ hP hD (p_none _) hl rfl rfl (Nat.le_of_ble_eq_true rfl) dX6_face_1 ⟨Nat.zero_le _, Nat.zero_le _⟩) hP hD hS hA (p_none _) (p_noneB _) (fun H locs hP hD hS => ?_)
  refine lv_if_ne (tgt := 11) hx hb dX6_face_4 (by decide) (fun q9 => absurd (show (isf a) = 0 from hi) q9) (fun c_1 => ?_)
  refine lv_sipush (v := (-1001)) hx hb dX6_face_7 (by decide) ?_
  exact x_iret X hr hlocks hP hD hS (by simp only [mFace, if_pos hi]) dX6_face_10

theorem p_tn0 : (0 : Int32).toNatClampNeg = 0 := rfl
theorem p_tn1 : (1 : Int32).toNatClampNeg = 1 := rfl
theorem p_tn2 : (2 : Int32).toNatClampNeg = 2 := rfl
theorem p_tn3 : (3 : Int32).toNatClampNeg = 3 := rfl
set_option maxHeartbeats 4000000 in
set_option maxRecDepth 100000 in
theorem c_X6_face_0e (l : Launch) (g : wG) (o : Nat → Nat) (r : MS) (b : Int32) (h7 : ¬ b = 7) (h6 : isw b 0 6 = 0) : CtI l g 2 yX6_face cX6_face 3 (some .int) [.ref (o 0), .int 0, .int b] (MW g o r) (mFace r 0 b) (MW g o r) := by
  intro sz
  refine x_enter (Qc := fun A => QI g A (mFace r 0 b) (MW g o r)) (by decide) (Nat.le_of_ble_eq_true rfl) ?_
  intro p e s m args below meth c X hr hlocks A hA hP hD hS ls hl
  obtain ⟨⟨hx, hb, hml, hown, hts⟩, hK, hN⟩ := id X
  have hl : lv_has ls 3 [(0, .ref (o 0)), (1, .int 0), (2, .int b)] := hl
  refine lv_iload_n hx hb dX6_face_0 rfl (lv_at hl 1 rfl) ?_
  refine x_goI (wn := MW g o r) (x_rS (As := [.int 0]) X (c_X6_isFace l g 0 _) yf_X6_isFace ys_X6_isFace wM_X6_52 ⟨Nat.le_of_ble_eq_true rfl, Nat.le_of_ble_eq_true rfl⟩ hP hD (p_none _) hl rfl rfl (Nat.le_of_ble_eq_true rfl) dX6_face_1 ⟨Nat.zero_le _, Nat.zero_le _⟩) hP hD hS hA (p_none _) (p_noneB _) (fun H locs hP hD hS => ?_)
  refine lv_if_ne (tgt := 11) hx hb dX6_face_4 (by decide) (fun c_1 => ?_) (fun q9 => absurd (show (isf 0) = 0 from q9) (show ¬ (isf 0) = 0 from (by decide)))
  refine lv_iload_n hx hb dX6_face_11 rfl (lv_at hl 2 rfl) ?_
  refine lv_bipush (v := 7) hx hb dX6_face_12 (by decide) ?_
  refine lv_icmp_ne (tgt := 39) hx hb dX6_face_14 (by decide) (fun c_2 => ?_) (fun q9 => absurd (show b = 7 from q9) (show ¬ b = 7 from h7))
  refine lv_iload_n hx hb dX6_face_39 rfl (lv_at hl 2 rfl) ?_
  refine lv_iconst (v := 0) hx hb dX6_face_40 (by decide) ?_
  refine lv_bipush (v := 6) hx hb dX6_face_41 (by decide) ?_
  refine x_goI (wn := MW g o r) (x_rS (As := [.int b, .int 0, .int 6]) X (c_X6_in l g b 0 6 _) yf_X6_in ys_X6_in wM_X6_33 ⟨Nat.le_of_ble_eq_true rfl, Nat.le_of_ble_eq_true rfl⟩ hP hD (p_none _) hl rfl rfl (Nat.le_of_ble_eq_true rfl) dX6_face_43 ⟨Nat.zero_le _, Nat.zero_le _⟩) hP hD hS hA (p_none _) (p_noneB _) (fun H locs hP hD hS => ?_)
  refine lv_if_eq (tgt := 58) hx hb dX6_face_46 (by decide) (fun c_3 => ?_) (fun q9 => absurd (show (isw b 0 6) = 0 from h6) (show ¬ ((isw b 0 6) = 0) from q9))
  refine lv_sipush (v := (-1002)) hx hb dX6_face_58 (by decide) ?_
  exact x_iret X hr hlocks hP hD hS (by simp only [mFace, mFaceP, p_tn0, if_neg (show ¬ isf 0 = 0 from by decide), if_neg h7, if_pos h6]) dX6_face_61

set_option maxHeartbeats 4000000 in
set_option maxRecDepth 100000 in
theorem c_X6_face_07 (l : Launch) (g : wG) (o : Nat → Nat) (r : MS) : CtI l g 2 yX6_face cX6_face 3 (some .int) [.ref (o 0), .int 0, .int 7] (MW g o r) (mFace r 0 7) (MW g o r) := by
  intro sz
  refine x_enter (Qc := fun A => QI g A (mFace r 0 7) (MW g o r)) (by decide) (Nat.le_of_ble_eq_true rfl) ?_
  intro p e s m args below meth c X hr hlocks A hA hP hD hS ls hl
  obtain ⟨⟨hx, hb, hml, hown, hts⟩, hK, hN⟩ := id X
  have hl : lv_has ls 3 [(0, .ref (o 0)), (1, .int 0), (2, .int 7)] := hl
  refine lv_iload_n hx hb dX6_face_0 rfl (lv_at hl 1 rfl) ?_
  refine x_goI (wn := MW g o r) (x_rS (As := [.int 0]) X (c_X6_isFace l g 0 _) yf_X6_isFace ys_X6_isFace wM_X6_52 ⟨Nat.le_of_ble_eq_true rfl, Nat.le_of_ble_eq_true rfl⟩ hP hD (p_none _) hl rfl rfl (Nat.le_of_ble_eq_true rfl) dX6_face_1 ⟨Nat.zero_le _, Nat.zero_le _⟩) hP hD hS hA (p_none _) (p_noneB _) (fun H locs hP hD hS => ?_)
  refine lv_if_ne (tgt := 11) hx hb dX6_face_4 (by decide) (fun c_1 => ?_) (fun q9 => absurd (show (isf 0) = 0 from q9) (show ¬ (isf 0) = 0 from (by decide)))
  refine lv_iload_n hx hb dX6_face_11 rfl (lv_at hl 2 rfl) ?_
  refine lv_bipush (v := 7) hx hb dX6_face_12 (by decide) ?_
  refine lv_icmp_ne (tgt := 39) hx hb dX6_face_14 (by decide) (fun q9 => absurd (show (7 : Int32) = 7 from (by decide)) q9) (fun c_2 => ?_)
  refine lv_aload_n hx hb dX6_face_17 rfl (lv_at hl 0 rfl) ?_
  refine lv_iload_n hx hb dX6_face_18 rfl (lv_at hl 1 rfl) ?_
  refine lv_iconst (v := 0) hx hb dX6_face_19 (by decide) ?_
  refine x_goI (wn := MW g o r) (x_rV (As := [.int 0, .int 0]) X (c_X6_of l g o r 0 0 (by decide) (by decide)  _) yf_X6_of yi_X6_of wM_X6_56 ⟨Nat.le_of_ble_eq_true rfl, Nat.le_of_ble_eq_true rfl⟩ hP hD (p_all _) 0 rfl rfl hl rfl rfl (Nat.le_of_ble_eq_true rfl) dX6_face_20 ⟨Nat.zero_le _, Nat.zero_le _⟩) hP hD hS hA (p_all _) (p_back _) (fun H locs hP hD hS => ?_)
  refine lv_aload_n hx hb dX6_face_23 rfl (lv_at hl 0 rfl) ?_
  refine x_get (v := .ref (o 1)) X 0 0 in_X6 hP rfl rfl (by decide) wF_X6_7 rfl rfl dX6_face_24 ?_
  refine lv_iconst (v := 0) hx hb dX6_face_27 (by decide) ?_
  refine x_iald (v := ((mZ r) 0)) X 1 0 hP rfl rfl (by decide) (Nat.le_of_ble_eq_true rfl) rfl dX6_face_28 ?_
  refine lv_sipush (v := 720) hx hb dX6_face_29 (by decide) ?_
  refine lv_irem hx hb dX6_face_32 (by decide) ?_
  refine x_goI (wn := MW g o r) (x_rS (As := [.int ((mZ r) 8), .int (jrem ((mZ r) 0) 720)]) X (c_X6_distance l g ((mZ r) 8) (jrem ((mZ r) 0) 720) _) yf_X6_distance ys_X6_distance wM_X6_64 ⟨Nat.le_of_ble_eq_true rfl, Nat.le_of_ble_eq_true rfl⟩ hP hD (p_none _) hl rfl rfl (Nat.le_of_ble_eq_true rfl) dX6_face_33 ⟨Nat.zero_le _, Nat.zero_le _⟩) hP hD hS hA (p_none _) (p_noneB _) (fun H locs hP hD hS => ?_)
  refine lv_goto (tgt := 61) hx hb dX6_face_36 (by decide) ?_
  exact x_iret X hr hlocks hP hD hS (by simp only [mFace, mFaceP, p_tn0, if_neg (show ¬ isf 0 = 0 from by decide), if_true]) dX6_face_61

set_option maxHeartbeats 4000000 in
set_option maxRecDepth 100000 in
theorem c_X6_face_0w (l : Launch) (g : wG) (o : Nat → Nat) (r : MS) (w : Nat) (hw : w < 7) (hw7 : ¬ nI w = 7) (hw0 : ¬ isw (nI w) 0 6 = 0) : CtI l g 2 yX6_face cX6_face 3 (some .int) [.ref (o 0), .int 0, .int (nI w)] (MW g o r) (mFace r 0 (nI w)) (MW g o r) := by
  intro sz
  refine x_enter (Qc := fun A => QI g A (mFace r 0 (nI w)) (MW g o r)) (by decide) (Nat.le_of_ble_eq_true rfl) ?_
  intro p e s m args below meth c X hr hlocks A hA hP hD hS ls hl
  obtain ⟨⟨hx, hb, hml, hown, hts⟩, hK, hN⟩ := id X
  have hl : lv_has ls 3 [(0, .ref (o 0)), (1, .int 0), (2, .int (nI w))] := hl
  refine lv_iload_n hx hb dX6_face_0 rfl (lv_at hl 1 rfl) ?_
  refine x_goI (wn := MW g o r) (x_rS (As := [.int 0]) X (c_X6_isFace l g 0 _) yf_X6_isFace ys_X6_isFace wM_X6_52 ⟨Nat.le_of_ble_eq_true rfl, Nat.le_of_ble_eq_true rfl⟩ hP hD (p_none _) hl rfl rfl (Nat.le_of_ble_eq_true rfl) dX6_face_1 ⟨Nat.zero_le _, Nat.zero_le _⟩) hP hD hS hA (p_none _) (p_noneB _) (fun H locs hP hD hS => ?_)
  refine lv_if_ne (tgt := 11) hx hb dX6_face_4 (by decide) (fun c_1 => ?_) (fun q9 => absurd (show (isf 0) = 0 from q9) (show ¬ (isf 0) = 0 from (by decide)))
  refine lv_iload_n hx hb dX6_face_11 rfl (lv_at hl 2 rfl) ?_
  refine lv_bipush (v := 7) hx hb dX6_face_12 (by decide) ?_
  refine lv_icmp_ne (tgt := 39) hx hb dX6_face_14 (by decide) (fun c_2 => ?_) (fun q9 => absurd (show (nI w) = 7 from q9) (show ¬ (nI w) = 7 from hw7))
  refine lv_iload_n hx hb dX6_face_39 rfl (lv_at hl 2 rfl) ?_
  refine lv_iconst (v := 0) hx hb dX6_face_40 (by decide) ?_
  refine lv_bipush (v := 6) hx hb dX6_face_41 (by decide) ?_
  refine x_goI (wn := MW g o r) (x_rS (As := [.int (nI w), .int 0, .int 6]) X (c_X6_in l g (nI w) 0 6 _) yf_X6_in ys_X6_in wM_X6_33 ⟨Nat.le_of_ble_eq_true rfl, Nat.le_of_ble_eq_true rfl⟩ hP hD (p_none _) hl rfl rfl (Nat.le_of_ble_eq_true rfl) dX6_face_43 ⟨Nat.zero_le _, Nat.zero_le _⟩) hP hD hS hA (p_none _) (p_noneB _) (fun H locs hP hD hS => ?_)
  refine lv_if_eq (tgt := 58) hx hb dX6_face_46 (by decide) (fun q9 => absurd q9 (show ¬ (isw (nI w) 0 6) = 0 from hw0)) (fun c_3 => ?_)
  refine lv_aload_n hx hb dX6_face_49 rfl (lv_at hl 0 rfl) ?_
  refine lv_iload_n hx hb dX6_face_50 rfl (lv_at hl 1 rfl) ?_
  refine lv_iload_n hx hb dX6_face_51 rfl (lv_at hl 2 rfl) ?_
  refine x_goI (wn := MW g o r) (x_rV (As := [.int 0, .int (nI w)]) X (c_X6_of l g o r 0 w (by decide) hw  _) yf_X6_of yi_X6_of wM_X6_56 ⟨Nat.le_of_ble_eq_true rfl, Nat.le_of_ble_eq_true rfl⟩ hP hD (p_all _) 0 rfl rfl hl rfl rfl (Nat.le_of_ble_eq_true rfl) dX6_face_52 ⟨Nat.zero_le _, Nat.zero_le _⟩) hP hD hS hA (p_all _) (p_back _) (fun H locs hP hD hS => ?_)
  refine lv_goto (tgt := 61) hx hb dX6_face_55 (by decide) ?_
  exact x_iret X hr hlocks hP hD hS (by simp only [mFace, mFaceP, p_tn0, if_neg (show ¬ isf 0 = 0 from by decide), if_neg hw7, if_neg hw0]; rw [nI_clamp (show w < 2 ^ 31 from by omega)]) dX6_face_61

set_option maxHeartbeats 4000000 in
set_option maxRecDepth 100000 in
theorem c_X6_face_1e (l : Launch) (g : wG) (o : Nat → Nat) (r : MS) (b : Int32) (h7 : ¬ b = 7) (h6 : isw b 0 6 = 0) : CtI l g 2 yX6_face cX6_face 3 (some .int) [.ref (o 0), .int 1, .int b] (MW g o r) (mFace r 1 b) (MW g o r) := by
  intro sz
  refine x_enter (Qc := fun A => QI g A (mFace r 1 b) (MW g o r)) (by decide) (Nat.le_of_ble_eq_true rfl) ?_
  intro p e s m args below meth c X hr hlocks A hA hP hD hS ls hl
  obtain ⟨⟨hx, hb, hml, hown, hts⟩, hK, hN⟩ := id X
  have hl : lv_has ls 3 [(0, .ref (o 0)), (1, .int 1), (2, .int b)] := hl
  refine lv_iload_n hx hb dX6_face_0 rfl (lv_at hl 1 rfl) ?_
  refine x_goI (wn := MW g o r) (x_rS (As := [.int 1]) X (c_X6_isFace l g 1 _) yf_X6_isFace ys_X6_isFace wM_X6_52 ⟨Nat.le_of_ble_eq_true rfl, Nat.le_of_ble_eq_true rfl⟩ hP hD (p_none _) hl rfl rfl (Nat.le_of_ble_eq_true rfl) dX6_face_1 ⟨Nat.zero_le _, Nat.zero_le _⟩) hP hD hS hA (p_none _) (p_noneB _) (fun H locs hP hD hS => ?_)
  refine lv_if_ne (tgt := 11) hx hb dX6_face_4 (by decide) (fun c_1 => ?_) (fun q9 => absurd (show (isf 1) = 0 from q9) (show ¬ (isf 1) = 0 from (by decide)))
  refine lv_iload_n hx hb dX6_face_11 rfl (lv_at hl 2 rfl) ?_
  refine lv_bipush (v := 7) hx hb dX6_face_12 (by decide) ?_
  refine lv_icmp_ne (tgt := 39) hx hb dX6_face_14 (by decide) (fun c_2 => ?_) (fun q9 => absurd (show b = 7 from q9) (show ¬ b = 7 from h7))
  refine lv_iload_n hx hb dX6_face_39 rfl (lv_at hl 2 rfl) ?_
  refine lv_iconst (v := 0) hx hb dX6_face_40 (by decide) ?_
  refine lv_bipush (v := 6) hx hb dX6_face_41 (by decide) ?_
  refine x_goI (wn := MW g o r) (x_rS (As := [.int b, .int 0, .int 6]) X (c_X6_in l g b 0 6 _) yf_X6_in ys_X6_in wM_X6_33 ⟨Nat.le_of_ble_eq_true rfl, Nat.le_of_ble_eq_true rfl⟩ hP hD (p_none _) hl rfl rfl (Nat.le_of_ble_eq_true rfl) dX6_face_43 ⟨Nat.zero_le _, Nat.zero_le _⟩) hP hD hS hA (p_none _) (p_noneB _) (fun H locs hP hD hS => ?_)
  refine lv_if_eq (tgt := 58) hx hb dX6_face_46 (by decide) (fun c_3 => ?_) (fun q9 => absurd (show (isw b 0 6) = 0 from h6) (show ¬ ((isw b 0 6) = 0) from q9))
  refine lv_sipush (v := (-1002)) hx hb dX6_face_58 (by decide) ?_
  exact x_iret X hr hlocks hP hD hS (by simp only [mFace, mFaceP, p_tn1, if_neg (show ¬ isf 1 = 0 from by decide), if_neg h7, if_pos h6]) dX6_face_61

set_option maxHeartbeats 4000000 in
set_option maxRecDepth 100000 in
theorem c_X6_face_17 (l : Launch) (g : wG) (o : Nat → Nat) (r : MS) : CtI l g 2 yX6_face cX6_face 3 (some .int) [.ref (o 0), .int 1, .int 7] (MW g o r) (mFace r 1 7) (MW g o r) := by
  intro sz
  refine x_enter (Qc := fun A => QI g A (mFace r 1 7) (MW g o r)) (by decide) (Nat.le_of_ble_eq_true rfl) ?_
  intro p e s m args below meth c X hr hlocks A hA hP hD hS ls hl
  obtain ⟨⟨hx, hb, hml, hown, hts⟩, hK, hN⟩ := id X
  have hl : lv_has ls 3 [(0, .ref (o 0)), (1, .int 1), (2, .int 7)] := hl
  refine lv_iload_n hx hb dX6_face_0 rfl (lv_at hl 1 rfl) ?_
  refine x_goI (wn := MW g o r) (x_rS (As := [.int 1]) X (c_X6_isFace l g 1 _) yf_X6_isFace ys_X6_isFace wM_X6_52 ⟨Nat.le_of_ble_eq_true rfl, Nat.le_of_ble_eq_true rfl⟩ hP hD (p_none _) hl rfl rfl (Nat.le_of_ble_eq_true rfl) dX6_face_1 ⟨Nat.zero_le _, Nat.zero_le _⟩) hP hD hS hA (p_none _) (p_noneB _) (fun H locs hP hD hS => ?_)
  refine lv_if_ne (tgt := 11) hx hb dX6_face_4 (by decide) (fun c_1 => ?_) (fun q9 => absurd (show (isf 1) = 0 from q9) (show ¬ (isf 1) = 0 from (by decide)))
  refine lv_iload_n hx hb dX6_face_11 rfl (lv_at hl 2 rfl) ?_
  refine lv_bipush (v := 7) hx hb dX6_face_12 (by decide) ?_
  refine lv_icmp_ne (tgt := 39) hx hb dX6_face_14 (by decide) (fun q9 => absurd (show (7 : Int32) = 7 from (by decide)) q9) (fun c_2 => ?_)
  refine lv_aload_n hx hb dX6_face_17 rfl (lv_at hl 0 rfl) ?_
  refine lv_iload_n hx hb dX6_face_18 rfl (lv_at hl 1 rfl) ?_
  refine lv_iconst (v := 0) hx hb dX6_face_19 (by decide) ?_
  refine x_goI (wn := MW g o r) (x_rV (As := [.int 1, .int 0]) X (c_X6_of l g o r 1 0 (by decide) (by decide)  _) yf_X6_of yi_X6_of wM_X6_56 ⟨Nat.le_of_ble_eq_true rfl, Nat.le_of_ble_eq_true rfl⟩ hP hD (p_all _) 0 rfl rfl hl rfl rfl (Nat.le_of_ble_eq_true rfl) dX6_face_20 ⟨Nat.zero_le _, Nat.zero_le _⟩) hP hD hS hA (p_all _) (p_back _) (fun H locs hP hD hS => ?_)
  refine lv_aload_n hx hb dX6_face_23 rfl (lv_at hl 0 rfl) ?_
  refine x_get (v := .ref (o 1)) X 0 0 in_X6 hP rfl rfl (by decide) wF_X6_7 rfl rfl dX6_face_24 ?_
  refine lv_iconst (v := 0) hx hb dX6_face_27 (by decide) ?_
  refine x_iald (v := ((mZ r) 0)) X 1 0 hP rfl rfl (by decide) (Nat.le_of_ble_eq_true rfl) rfl dX6_face_28 ?_
  refine lv_sipush (v := 720) hx hb dX6_face_29 (by decide) ?_
  refine lv_irem hx hb dX6_face_32 (by decide) ?_
  refine x_goI (wn := MW g o r) (x_rS (As := [.int ((mZ r) 15), .int (jrem ((mZ r) 0) 720)]) X (c_X6_distance l g ((mZ r) 15) (jrem ((mZ r) 0) 720) _) yf_X6_distance ys_X6_distance wM_X6_64 ⟨Nat.le_of_ble_eq_true rfl, Nat.le_of_ble_eq_true rfl⟩ hP hD (p_none _) hl rfl rfl (Nat.le_of_ble_eq_true rfl) dX6_face_33 ⟨Nat.zero_le _, Nat.zero_le _⟩) hP hD hS hA (p_none _) (p_noneB _) (fun H locs hP hD hS => ?_)
  refine lv_goto (tgt := 61) hx hb dX6_face_36 (by decide) ?_
  exact x_iret X hr hlocks hP hD hS (by simp only [mFace, mFaceP, p_tn1, if_neg (show ¬ isf 1 = 0 from by decide), if_true]) dX6_face_61

set_option maxHeartbeats 4000000 in
set_option maxRecDepth 100000 in
theorem c_X6_face_1w (l : Launch) (g : wG) (o : Nat → Nat) (r : MS) (w : Nat) (hw : w < 7) (hw7 : ¬ nI w = 7) (hw0 : ¬ isw (nI w) 0 6 = 0) : CtI l g 2 yX6_face cX6_face 3 (some .int) [.ref (o 0), .int 1, .int (nI w)] (MW g o r) (mFace r 1 (nI w)) (MW g o r) := by
  intro sz
  refine x_enter (Qc := fun A => QI g A (mFace r 1 (nI w)) (MW g o r)) (by decide) (Nat.le_of_ble_eq_true rfl) ?_
  intro p e s m args below meth c X hr hlocks A hA hP hD hS ls hl
  obtain ⟨⟨hx, hb, hml, hown, hts⟩, hK, hN⟩ := id X
  have hl : lv_has ls 3 [(0, .ref (o 0)), (1, .int 1), (2, .int (nI w))] := hl
  refine lv_iload_n hx hb dX6_face_0 rfl (lv_at hl 1 rfl) ?_
  refine x_goI (wn := MW g o r) (x_rS (As := [.int 1]) X (c_X6_isFace l g 1 _) yf_X6_isFace ys_X6_isFace wM_X6_52 ⟨Nat.le_of_ble_eq_true rfl, Nat.le_of_ble_eq_true rfl⟩ hP hD (p_none _) hl rfl rfl (Nat.le_of_ble_eq_true rfl) dX6_face_1 ⟨Nat.zero_le _, Nat.zero_le _⟩) hP hD hS hA (p_none _) (p_noneB _) (fun H locs hP hD hS => ?_)
  refine lv_if_ne (tgt := 11) hx hb dX6_face_4 (by decide) (fun c_1 => ?_) (fun q9 => absurd (show (isf 1) = 0 from q9) (show ¬ (isf 1) = 0 from (by decide)))
  refine lv_iload_n hx hb dX6_face_11 rfl (lv_at hl 2 rfl) ?_
  refine lv_bipush (v := 7) hx hb dX6_face_12 (by decide) ?_
  refine lv_icmp_ne (tgt := 39) hx hb dX6_face_14 (by decide) (fun c_2 => ?_) (fun q9 => absurd (show (nI w) = 7 from q9) (show ¬ (nI w) = 7 from hw7))
  refine lv_iload_n hx hb dX6_face_39 rfl (lv_at hl 2 rfl) ?_
  refine lv_iconst (v := 0) hx hb dX6_face_40 (by decide) ?_
  refine lv_bipush (v := 6) hx hb dX6_face_41 (by decide) ?_
  refine x_goI (wn := MW g o r) (x_rS (As := [.int (nI w), .int 0, .int 6]) X (c_X6_in l g (nI w) 0 6 _) yf_X6_in ys_X6_in wM_X6_33 ⟨Nat.le_of_ble_eq_true rfl, Nat.le_of_ble_eq_true rfl⟩ hP hD (p_none _) hl rfl rfl (Nat.le_of_ble_eq_true rfl) dX6_face_43 ⟨Nat.zero_le _, Nat.zero_le _⟩) hP hD hS hA (p_none _) (p_noneB _) (fun H locs hP hD hS => ?_)
  refine lv_if_eq (tgt := 58) hx hb dX6_face_46 (by decide) (fun q9 => absurd q9 (show ¬ (isw (nI w) 0 6) = 0 from hw0)) (fun c_3 => ?_)
  refine lv_aload_n hx hb dX6_face_49 rfl (lv_at hl 0 rfl) ?_
  refine lv_iload_n hx hb dX6_face_50 rfl (lv_at hl 1 rfl) ?_
  refine lv_iload_n hx hb dX6_face_51 rfl (lv_at hl 2 rfl) ?_
  refine x_goI (wn := MW g o r) (x_rV (As := [.int 1, .int (nI w)]) X (c_X6_of l g o r 1 w (by decide) hw  _) yf_X6_of yi_X6_of wM_X6_56 ⟨Nat.le_of_ble_eq_true rfl, Nat.le_of_ble_eq_true rfl⟩ hP hD (p_all _) 0 rfl rfl hl rfl rfl (Nat.le_of_ble_eq_true rfl) dX6_face_52 ⟨Nat.zero_le _, Nat.zero_le _⟩) hP hD hS hA (p_all _) (p_back _) (fun H locs hP hD hS => ?_)
  refine lv_goto (tgt := 61) hx hb dX6_face_55 (by decide) ?_
  exact x_iret X hr hlocks hP hD hS (by simp only [mFace, mFaceP, p_tn1, if_neg (show ¬ isf 1 = 0 from by decide), if_neg hw7, if_neg hw0]; rw [nI_clamp (show w < 2 ^ 31 from by omega)]) dX6_face_61

set_option maxHeartbeats 4000000 in
set_option maxRecDepth 100000 in
theorem c_X6_face_2e (l : Launch) (g : wG) (o : Nat → Nat) (r : MS) (b : Int32) (h7 : ¬ b = 7) (h6 : isw b 0 6 = 0) : CtI l g 2 yX6_face cX6_face 3 (some .int) [.ref (o 0), .int 2, .int b] (MW g o r) (mFace r 2 b) (MW g o r) := by
  intro sz
  refine x_enter (Qc := fun A => QI g A (mFace r 2 b) (MW g o r)) (by decide) (Nat.le_of_ble_eq_true rfl) ?_
  intro p e s m args below meth c X hr hlocks A hA hP hD hS ls hl
  obtain ⟨⟨hx, hb, hml, hown, hts⟩, hK, hN⟩ := id X
  have hl : lv_has ls 3 [(0, .ref (o 0)), (1, .int 2), (2, .int b)] := hl
  refine lv_iload_n hx hb dX6_face_0 rfl (lv_at hl 1 rfl) ?_
  refine x_goI (wn := MW g o r) (x_rS (As := [.int 2]) X (c_X6_isFace l g 2 _) yf_X6_isFace ys_X6_isFace wM_X6_52 ⟨Nat.le_of_ble_eq_true rfl, Nat.le_of_ble_eq_true rfl⟩ hP hD (p_none _) hl rfl rfl (Nat.le_of_ble_eq_true rfl) dX6_face_1 ⟨Nat.zero_le _, Nat.zero_le _⟩) hP hD hS hA (p_none _) (p_noneB _) (fun H locs hP hD hS => ?_)
  refine lv_if_ne (tgt := 11) hx hb dX6_face_4 (by decide) (fun c_1 => ?_) (fun q9 => absurd (show (isf 2) = 0 from q9) (show ¬ (isf 2) = 0 from (by decide)))
  refine lv_iload_n hx hb dX6_face_11 rfl (lv_at hl 2 rfl) ?_
  refine lv_bipush (v := 7) hx hb dX6_face_12 (by decide) ?_
  refine lv_icmp_ne (tgt := 39) hx hb dX6_face_14 (by decide) (fun c_2 => ?_) (fun q9 => absurd (show b = 7 from q9) (show ¬ b = 7 from h7))
  refine lv_iload_n hx hb dX6_face_39 rfl (lv_at hl 2 rfl) ?_
  refine lv_iconst (v := 0) hx hb dX6_face_40 (by decide) ?_
  refine lv_bipush (v := 6) hx hb dX6_face_41 (by decide) ?_
  refine x_goI (wn := MW g o r) (x_rS (As := [.int b, .int 0, .int 6]) X (c_X6_in l g b 0 6 _) yf_X6_in ys_X6_in wM_X6_33 ⟨Nat.le_of_ble_eq_true rfl, Nat.le_of_ble_eq_true rfl⟩ hP hD (p_none _) hl rfl rfl (Nat.le_of_ble_eq_true rfl) dX6_face_43 ⟨Nat.zero_le _, Nat.zero_le _⟩) hP hD hS hA (p_none _) (p_noneB _) (fun H locs hP hD hS => ?_)
  refine lv_if_eq (tgt := 58) hx hb dX6_face_46 (by decide) (fun c_3 => ?_) (fun q9 => absurd (show (isw b 0 6) = 0 from h6) (show ¬ ((isw b 0 6) = 0) from q9))
  refine lv_sipush (v := (-1002)) hx hb dX6_face_58 (by decide) ?_
  exact x_iret X hr hlocks hP hD hS (by simp only [mFace, mFaceP, p_tn2, if_neg (show ¬ isf 2 = 0 from by decide), if_neg h7, if_pos h6]) dX6_face_61

set_option maxHeartbeats 4000000 in
set_option maxRecDepth 100000 in
theorem c_X6_face_27 (l : Launch) (g : wG) (o : Nat → Nat) (r : MS) : CtI l g 2 yX6_face cX6_face 3 (some .int) [.ref (o 0), .int 2, .int 7] (MW g o r) (mFace r 2 7) (MW g o r) := by
  intro sz
  refine x_enter (Qc := fun A => QI g A (mFace r 2 7) (MW g o r)) (by decide) (Nat.le_of_ble_eq_true rfl) ?_
  intro p e s m args below meth c X hr hlocks A hA hP hD hS ls hl
  obtain ⟨⟨hx, hb, hml, hown, hts⟩, hK, hN⟩ := id X
  have hl : lv_has ls 3 [(0, .ref (o 0)), (1, .int 2), (2, .int 7)] := hl
  refine lv_iload_n hx hb dX6_face_0 rfl (lv_at hl 1 rfl) ?_
  refine x_goI (wn := MW g o r) (x_rS (As := [.int 2]) X (c_X6_isFace l g 2 _) yf_X6_isFace ys_X6_isFace wM_X6_52 ⟨Nat.le_of_ble_eq_true rfl, Nat.le_of_ble_eq_true rfl⟩ hP hD (p_none _) hl rfl rfl (Nat.le_of_ble_eq_true rfl) dX6_face_1 ⟨Nat.zero_le _, Nat.zero_le _⟩) hP hD hS hA (p_none _) (p_noneB _) (fun H locs hP hD hS => ?_)
  refine lv_if_ne (tgt := 11) hx hb dX6_face_4 (by decide) (fun c_1 => ?_) (fun q9 => absurd (show (isf 2) = 0 from q9) (show ¬ (isf 2) = 0 from (by decide)))
  refine lv_iload_n hx hb dX6_face_11 rfl (lv_at hl 2 rfl) ?_
  refine lv_bipush (v := 7) hx hb dX6_face_12 (by decide) ?_
  refine lv_icmp_ne (tgt := 39) hx hb dX6_face_14 (by decide) (fun q9 => absurd (show (7 : Int32) = 7 from (by decide)) q9) (fun c_2 => ?_)
  refine lv_aload_n hx hb dX6_face_17 rfl (lv_at hl 0 rfl) ?_
  refine lv_iload_n hx hb dX6_face_18 rfl (lv_at hl 1 rfl) ?_
  refine lv_iconst (v := 0) hx hb dX6_face_19 (by decide) ?_
  refine x_goI (wn := MW g o r) (x_rV (As := [.int 2, .int 0]) X (c_X6_of l g o r 2 0 (by decide) (by decide)  _) yf_X6_of yi_X6_of wM_X6_56 ⟨Nat.le_of_ble_eq_true rfl, Nat.le_of_ble_eq_true rfl⟩ hP hD (p_all _) 0 rfl rfl hl rfl rfl (Nat.le_of_ble_eq_true rfl) dX6_face_20 ⟨Nat.zero_le _, Nat.zero_le _⟩) hP hD hS hA (p_all _) (p_back _) (fun H locs hP hD hS => ?_)
  refine lv_aload_n hx hb dX6_face_23 rfl (lv_at hl 0 rfl) ?_
  refine x_get (v := .ref (o 1)) X 0 0 in_X6 hP rfl rfl (by decide) wF_X6_7 rfl rfl dX6_face_24 ?_
  refine lv_iconst (v := 0) hx hb dX6_face_27 (by decide) ?_
  refine x_iald (v := ((mZ r) 0)) X 1 0 hP rfl rfl (by decide) (Nat.le_of_ble_eq_true rfl) rfl dX6_face_28 ?_
  refine lv_sipush (v := 720) hx hb dX6_face_29 (by decide) ?_
  refine lv_irem hx hb dX6_face_32 (by decide) ?_
  refine x_goI (wn := MW g o r) (x_rS (As := [.int ((mZ r) 22), .int (jrem ((mZ r) 0) 720)]) X (c_X6_distance l g ((mZ r) 22) (jrem ((mZ r) 0) 720) _) yf_X6_distance ys_X6_distance wM_X6_64 ⟨Nat.le_of_ble_eq_true rfl, Nat.le_of_ble_eq_true rfl⟩ hP hD (p_none _) hl rfl rfl (Nat.le_of_ble_eq_true rfl) dX6_face_33 ⟨Nat.zero_le _, Nat.zero_le _⟩) hP hD hS hA (p_none _) (p_noneB _) (fun H locs hP hD hS => ?_)
  refine lv_goto (tgt := 61) hx hb dX6_face_36 (by decide) ?_
  exact x_iret X hr hlocks hP hD hS (by simp only [mFace, mFaceP, p_tn2, if_neg (show ¬ isf 2 = 0 from by decide), if_true]) dX6_face_61

set_option maxHeartbeats 4000000 in
set_option maxRecDepth 100000 in
theorem c_X6_face_2w (l : Launch) (g : wG) (o : Nat → Nat) (r : MS) (w : Nat) (hw : w < 7) (hw7 : ¬ nI w = 7) (hw0 : ¬ isw (nI w) 0 6 = 0) : CtI l g 2 yX6_face cX6_face 3 (some .int) [.ref (o 0), .int 2, .int (nI w)] (MW g o r) (mFace r 2 (nI w)) (MW g o r) := by
  intro sz
  refine x_enter (Qc := fun A => QI g A (mFace r 2 (nI w)) (MW g o r)) (by decide) (Nat.le_of_ble_eq_true rfl) ?_
  intro p e s m args below meth c X hr hlocks A hA hP hD hS ls hl
  obtain ⟨⟨hx, hb, hml, hown, hts⟩, hK, hN⟩ := id X
  have hl : lv_has ls 3 [(0, .ref (o 0)), (1, .int 2), (2, .int (nI w))] := hl
  refine lv_iload_n hx hb dX6_face_0 rfl (lv_at hl 1 rfl) ?_
  refine x_goI (wn := MW g o r) (x_rS (As := [.int 2]) X (c_X6_isFace l g 2 _) yf_X6_isFace ys_X6_isFace wM_X6_52 ⟨Nat.le_of_ble_eq_true rfl, Nat.le_of_ble_eq_true rfl⟩ hP hD (p_none _) hl rfl rfl (Nat.le_of_ble_eq_true rfl) dX6_face_1 ⟨Nat.zero_le _, Nat.zero_le _⟩) hP hD hS hA (p_none _) (p_noneB _) (fun H locs hP hD hS => ?_)
  refine lv_if_ne (tgt := 11) hx hb dX6_face_4 (by decide) (fun c_1 => ?_) (fun q9 => absurd (show (isf 2) = 0 from q9) (show ¬ (isf 2) = 0 from (by decide)))
  refine lv_iload_n hx hb dX6_face_11 rfl (lv_at hl 2 rfl) ?_
  refine lv_bipush (v := 7) hx hb dX6_face_12 (by decide) ?_
  refine lv_icmp_ne (tgt := 39) hx hb dX6_face_14 (by decide) (fun c_2 => ?_) (fun q9 => absurd (show (nI w) = 7 from q9) (show ¬ (nI w) = 7 from hw7))
  refine lv_iload_n hx hb dX6_face_39 rfl (lv_at hl 2 rfl) ?_
  refine lv_iconst (v := 0) hx hb dX6_face_40 (by decide) ?_
  refine lv_bipush (v := 6) hx hb dX6_face_41 (by decide) ?_
  refine x_goI (wn := MW g o r) (x_rS (As := [.int (nI w), .int 0, .int 6]) X (c_X6_in l g (nI w) 0 6 _) yf_X6_in ys_X6_in wM_X6_33 ⟨Nat.le_of_ble_eq_true rfl, Nat.le_of_ble_eq_true rfl⟩ hP hD (p_none _) hl rfl rfl (Nat.le_of_ble_eq_true rfl) dX6_face_43 ⟨Nat.zero_le _, Nat.zero_le _⟩) hP hD hS hA (p_none _) (p_noneB _) (fun H locs hP hD hS => ?_)
  refine lv_if_eq (tgt := 58) hx hb dX6_face_46 (by decide) (fun q9 => absurd q9 (show ¬ (isw (nI w) 0 6) = 0 from hw0)) (fun c_3 => ?_)
  refine lv_aload_n hx hb dX6_face_49 rfl (lv_at hl 0 rfl) ?_
  refine lv_iload_n hx hb dX6_face_50 rfl (lv_at hl 1 rfl) ?_
  refine lv_iload_n hx hb dX6_face_51 rfl (lv_at hl 2 rfl) ?_
  refine x_goI (wn := MW g o r) (x_rV (As := [.int 2, .int (nI w)]) X (c_X6_of l g o r 2 w (by decide) hw  _) yf_X6_of yi_X6_of wM_X6_56 ⟨Nat.le_of_ble_eq_true rfl, Nat.le_of_ble_eq_true rfl⟩ hP hD (p_all _) 0 rfl rfl hl rfl rfl (Nat.le_of_ble_eq_true rfl) dX6_face_52 ⟨Nat.zero_le _, Nat.zero_le _⟩) hP hD hS hA (p_all _) (p_back _) (fun H locs hP hD hS => ?_)
  refine lv_goto (tgt := 61) hx hb dX6_face_55 (by decide) ?_
  exact x_iret X hr hlocks hP hD hS (by simp only [mFace, mFaceP, p_tn2, if_neg (show ¬ isf 2 = 0 from by decide), if_neg hw7, if_neg hw0]; rw [nI_clamp (show w < 2 ^ 31 from by omega)]) dX6_face_61

set_option maxHeartbeats 4000000 in
set_option maxRecDepth 100000 in
theorem c_X6_face_3e (l : Launch) (g : wG) (o : Nat → Nat) (r : MS) (b : Int32) (h7 : ¬ b = 7) (h6 : isw b 0 6 = 0) : CtI l g 2 yX6_face cX6_face 3 (some .int) [.ref (o 0), .int 3, .int b] (MW g o r) (mFace r 3 b) (MW g o r) := by
  intro sz
  refine x_enter (Qc := fun A => QI g A (mFace r 3 b) (MW g o r)) (by decide) (Nat.le_of_ble_eq_true rfl) ?_
  intro p e s m args below meth c X hr hlocks A hA hP hD hS ls hl
  obtain ⟨⟨hx, hb, hml, hown, hts⟩, hK, hN⟩ := id X
  have hl : lv_has ls 3 [(0, .ref (o 0)), (1, .int 3), (2, .int b)] := hl
  refine lv_iload_n hx hb dX6_face_0 rfl (lv_at hl 1 rfl) ?_
  refine x_goI (wn := MW g o r) (x_rS (As := [.int 3]) X (c_X6_isFace l g 3 _) yf_X6_isFace ys_X6_isFace wM_X6_52 ⟨Nat.le_of_ble_eq_true rfl, Nat.le_of_ble_eq_true rfl⟩ hP hD (p_none _) hl rfl rfl (Nat.le_of_ble_eq_true rfl) dX6_face_1 ⟨Nat.zero_le _, Nat.zero_le _⟩) hP hD hS hA (p_none _) (p_noneB _) (fun H locs hP hD hS => ?_)
  refine lv_if_ne (tgt := 11) hx hb dX6_face_4 (by decide) (fun c_1 => ?_) (fun q9 => absurd (show (isf 3) = 0 from q9) (show ¬ (isf 3) = 0 from (by decide)))
  refine lv_iload_n hx hb dX6_face_11 rfl (lv_at hl 2 rfl) ?_
  refine lv_bipush (v := 7) hx hb dX6_face_12 (by decide) ?_
  refine lv_icmp_ne (tgt := 39) hx hb dX6_face_14 (by decide) (fun c_2 => ?_) (fun q9 => absurd (show b = 7 from q9) (show ¬ b = 7 from h7))
  refine lv_iload_n hx hb dX6_face_39 rfl (lv_at hl 2 rfl) ?_
  refine lv_iconst (v := 0) hx hb dX6_face_40 (by decide) ?_
  refine lv_bipush (v := 6) hx hb dX6_face_41 (by decide) ?_
  refine x_goI (wn := MW g o r) (x_rS (As := [.int b, .int 0, .int 6]) X (c_X6_in l g b 0 6 _) yf_X6_in ys_X6_in wM_X6_33 ⟨Nat.le_of_ble_eq_true rfl, Nat.le_of_ble_eq_true rfl⟩ hP hD (p_none _) hl rfl rfl (Nat.le_of_ble_eq_true rfl) dX6_face_43 ⟨Nat.zero_le _, Nat.zero_le _⟩) hP hD hS hA (p_none _) (p_noneB _) (fun H locs hP hD hS => ?_)
  refine lv_if_eq (tgt := 58) hx hb dX6_face_46 (by decide) (fun c_3 => ?_) (fun q9 => absurd (show (isw b 0 6) = 0 from h6) (show ¬ ((isw b 0 6) = 0) from q9))
  refine lv_sipush (v := (-1002)) hx hb dX6_face_58 (by decide) ?_
  exact x_iret X hr hlocks hP hD hS (by simp only [mFace, mFaceP, p_tn3, if_neg (show ¬ isf 3 = 0 from by decide), if_neg h7, if_pos h6]) dX6_face_61

set_option maxHeartbeats 4000000 in
set_option maxRecDepth 100000 in
theorem c_X6_face_37 (l : Launch) (g : wG) (o : Nat → Nat) (r : MS) : CtI l g 2 yX6_face cX6_face 3 (some .int) [.ref (o 0), .int 3, .int 7] (MW g o r) (mFace r 3 7) (MW g o r) := by
  intro sz
  refine x_enter (Qc := fun A => QI g A (mFace r 3 7) (MW g o r)) (by decide) (Nat.le_of_ble_eq_true rfl) ?_
  intro p e s m args below meth c X hr hlocks A hA hP hD hS ls hl
  obtain ⟨⟨hx, hb, hml, hown, hts⟩, hK, hN⟩ := id X
  have hl : lv_has ls 3 [(0, .ref (o 0)), (1, .int 3), (2, .int 7)] := hl
  refine lv_iload_n hx hb dX6_face_0 rfl (lv_at hl 1 rfl) ?_
  refine x_goI (wn := MW g o r) (x_rS (As := [.int 3]) X (c_X6_isFace l g 3 _) yf_X6_isFace ys_X6_isFace wM_X6_52 ⟨Nat.le_of_ble_eq_true rfl, Nat.le_of_ble_eq_true rfl⟩ hP hD (p_none _) hl rfl rfl (Nat.le_of_ble_eq_true rfl) dX6_face_1 ⟨Nat.zero_le _, Nat.zero_le _⟩) hP hD hS hA (p_none _) (p_noneB _) (fun H locs hP hD hS => ?_)
  refine lv_if_ne (tgt := 11) hx hb dX6_face_4 (by decide) (fun c_1 => ?_) (fun q9 => absurd (show (isf 3) = 0 from q9) (show ¬ (isf 3) = 0 from (by decide)))
  refine lv_iload_n hx hb dX6_face_11 rfl (lv_at hl 2 rfl) ?_
  refine lv_bipush (v := 7) hx hb dX6_face_12 (by decide) ?_
  refine lv_icmp_ne (tgt := 39) hx hb dX6_face_14 (by decide) (fun q9 => absurd (show (7 : Int32) = 7 from (by decide)) q9) (fun c_2 => ?_)
  refine lv_aload_n hx hb dX6_face_17 rfl (lv_at hl 0 rfl) ?_
  refine lv_iload_n hx hb dX6_face_18 rfl (lv_at hl 1 rfl) ?_
  refine lv_iconst (v := 0) hx hb dX6_face_19 (by decide) ?_
  refine x_goI (wn := MW g o r) (x_rV (As := [.int 3, .int 0]) X (c_X6_of l g o r 3 0 (by decide) (by decide)  _) yf_X6_of yi_X6_of wM_X6_56 ⟨Nat.le_of_ble_eq_true rfl, Nat.le_of_ble_eq_true rfl⟩ hP hD (p_all _) 0 rfl rfl hl rfl rfl (Nat.le_of_ble_eq_true rfl) dX6_face_20 ⟨Nat.zero_le _, Nat.zero_le _⟩) hP hD hS hA (p_all _) (p_back _) (fun H locs hP hD hS => ?_)
  refine lv_aload_n hx hb dX6_face_23 rfl (lv_at hl 0 rfl) ?_
  refine x_get (v := .ref (o 1)) X 0 0 in_X6 hP rfl rfl (by decide) wF_X6_7 rfl rfl dX6_face_24 ?_
  refine lv_iconst (v := 0) hx hb dX6_face_27 (by decide) ?_
  refine x_iald (v := ((mZ r) 0)) X 1 0 hP rfl rfl (by decide) (Nat.le_of_ble_eq_true rfl) rfl dX6_face_28 ?_
  refine lv_sipush (v := 720) hx hb dX6_face_29 (by decide) ?_
  refine lv_irem hx hb dX6_face_32 (by decide) ?_
  refine x_goI (wn := MW g o r) (x_rS (As := [.int ((mZ r) 29), .int (jrem ((mZ r) 0) 720)]) X (c_X6_distance l g ((mZ r) 29) (jrem ((mZ r) 0) 720) _) yf_X6_distance ys_X6_distance wM_X6_64 ⟨Nat.le_of_ble_eq_true rfl, Nat.le_of_ble_eq_true rfl⟩ hP hD (p_none _) hl rfl rfl (Nat.le_of_ble_eq_true rfl) dX6_face_33 ⟨Nat.zero_le _, Nat.zero_le _⟩) hP hD hS hA (p_none _) (p_noneB _) (fun H locs hP hD hS => ?_)
  refine lv_goto (tgt := 61) hx hb dX6_face_36 (by decide) ?_
  exact x_iret X hr hlocks hP hD hS (by simp only [mFace, mFaceP, p_tn3, if_neg (show ¬ isf 3 = 0 from by decide), if_true]) dX6_face_61

set_option maxHeartbeats 4000000 in
set_option maxRecDepth 100000 in
theorem c_X6_face_3w (l : Launch) (g : wG) (o : Nat → Nat) (r : MS) (w : Nat) (hw : w < 7) (hw7 : ¬ nI w = 7) (hw0 : ¬ isw (nI w) 0 6 = 0) : CtI l g 2 yX6_face cX6_face 3 (some .int) [.ref (o 0), .int 3, .int (nI w)] (MW g o r) (mFace r 3 (nI w)) (MW g o r) := by
  intro sz
  refine x_enter (Qc := fun A => QI g A (mFace r 3 (nI w)) (MW g o r)) (by decide) (Nat.le_of_ble_eq_true rfl) ?_
  intro p e s m args below meth c X hr hlocks A hA hP hD hS ls hl
  obtain ⟨⟨hx, hb, hml, hown, hts⟩, hK, hN⟩ := id X
  have hl : lv_has ls 3 [(0, .ref (o 0)), (1, .int 3), (2, .int (nI w))] := hl
  refine lv_iload_n hx hb dX6_face_0 rfl (lv_at hl 1 rfl) ?_
  refine x_goI (wn := MW g o r) (x_rS (As := [.int 3]) X (c_X6_isFace l g 3 _) yf_X6_isFace ys_X6_isFace wM_X6_52 ⟨Nat.le_of_ble_eq_true rfl, Nat.le_of_ble_eq_true rfl⟩ hP hD (p_none _) hl rfl rfl (Nat.le_of_ble_eq_true rfl) dX6_face_1 ⟨Nat.zero_le _, Nat.zero_le _⟩) hP hD hS hA (p_none _) (p_noneB _) (fun H locs hP hD hS => ?_)
  refine lv_if_ne (tgt := 11) hx hb dX6_face_4 (by decide) (fun c_1 => ?_) (fun q9 => absurd (show (isf 3) = 0 from q9) (show ¬ (isf 3) = 0 from (by decide)))
  refine lv_iload_n hx hb dX6_face_11 rfl (lv_at hl 2 rfl) ?_
  refine lv_bipush (v := 7) hx hb dX6_face_12 (by decide) ?_
  refine lv_icmp_ne (tgt := 39) hx hb dX6_face_14 (by decide) (fun c_2 => ?_) (fun q9 => absurd (show (nI w) = 7 from q9) (show ¬ (nI w) = 7 from hw7))
  refine lv_iload_n hx hb dX6_face_39 rfl (lv_at hl 2 rfl) ?_
  refine lv_iconst (v := 0) hx hb dX6_face_40 (by decide) ?_
  refine lv_bipush (v := 6) hx hb dX6_face_41 (by decide) ?_
  refine x_goI (wn := MW g o r) (x_rS (As := [.int (nI w), .int 0, .int 6]) X (c_X6_in l g (nI w) 0 6 _) yf_X6_in ys_X6_in wM_X6_33 ⟨Nat.le_of_ble_eq_true rfl, Nat.le_of_ble_eq_true rfl⟩ hP hD (p_none _) hl rfl rfl (Nat.le_of_ble_eq_true rfl) dX6_face_43 ⟨Nat.zero_le _, Nat.zero_le _⟩) hP hD hS hA (p_none _) (p_noneB _) (fun H locs hP hD hS => ?_)
  refine lv_if_eq (tgt := 58) hx hb dX6_face_46 (by decide) (fun q9 => absurd q9 (show ¬ (isw (nI w) 0 6) = 0 from hw0)) (fun c_3 => ?_)
  refine lv_aload_n hx hb dX6_face_49 rfl (lv_at hl 0 rfl) ?_
  refine lv_iload_n hx hb dX6_face_50 rfl (lv_at hl 1 rfl) ?_
  refine lv_iload_n hx hb dX6_face_51 rfl (lv_at hl 2 rfl) ?_
  refine x_goI (wn := MW g o r) (x_rV (As := [.int 3, .int (nI w)]) X (c_X6_of l g o r 3 w (by decide) hw  _) yf_X6_of yi_X6_of wM_X6_56 ⟨Nat.le_of_ble_eq_true rfl, Nat.le_of_ble_eq_true rfl⟩ hP hD (p_all _) 0 rfl rfl hl rfl rfl (Nat.le_of_ble_eq_true rfl) dX6_face_52 ⟨Nat.zero_le _, Nat.zero_le _⟩) hP hD hS hA (p_all _) (p_back _) (fun H locs hP hD hS => ?_)
  refine lv_goto (tgt := 61) hx hb dX6_face_55 (by decide) ?_
  exact x_iret X hr hlocks hP hD hS (by simp only [mFace, mFaceP, p_tn3, if_neg (show ¬ isf 3 = 0 from by decide), if_neg hw7, if_neg hw0]; rw [nI_clamp (show w < 2 ^ 31 from by omega)]) dX6_face_61

theorem c_X6_face (l : Launch) (g : wG) (o : Nat → Nat) (r : MS) (a b : Int32) : CtI l g 2 yX6_face cX6_face 3 (some .int) [.ref (o 0), .int a, .int b] (MW g o r) (mFace r a b) (MW g o r) := by
  by_cases hi : isf a = 0
  · exact c_X6_face_e l g o r a b hi
  · obtain ⟨k, hk, rfl⟩ := isw_nI (n := 3) (by decide) hi
    by_cases h7 : b = 7
    · subst h7
      rcases (show k = 0 ∨ k = 1 ∨ k = 2 ∨ k = 3 by omega) with rfl | rfl | rfl | rfl
      · exact c_X6_face_07 l g o r
      · exact c_X6_face_17 l g o r
      · exact c_X6_face_27 l g o r
      · exact c_X6_face_37 l g o r
    · by_cases h6 : isw b 0 6 = 0
      · rcases (show k = 0 ∨ k = 1 ∨ k = 2 ∨ k = 3 by omega) with rfl | rfl | rfl | rfl
        · exact c_X6_face_0e l g o r b h7 h6
        · exact c_X6_face_1e l g o r b h7 h6
        · exact c_X6_face_2e l g o r b h7 h6
        · exact c_X6_face_3e l g o r b h7 h6
      · obtain ⟨w, hw, rfl⟩ := isw_nI (n := 6) (by decide) h6
        rcases (show k = 0 ∨ k = 1 ∨ k = 2 ∨ k = 3 by omega) with rfl | rfl | rfl | rfl
        · exact c_X6_face_0w l g o r w (by omega) h7 h6
        · exact c_X6_face_1w l g o r w (by omega) h7 h6
        · exact c_X6_face_2w l g o r w (by omega) h7 h6
        · exact c_X6_face_3w l g o r w (by omega) h7 h6
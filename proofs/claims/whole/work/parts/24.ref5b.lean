def mtM (cn : Nat) (sp : Int32) : Nat → Nat → RI → Int32
  | 0, k, z => if spM z < sp then -1000 else nI k
  | n + 1, k, z => if sp ≤ spM z then nI k else mtM cn sp n (k + 1) (minM cn z)
def mMinutesTo (r : MS) (cn : Nat) (a : Int32) (nf : Nat) : Int32 × MS := if isw a 0 360 = 0 then (-1002, r) else (mtM cn a nf 0 (mZ r), mas r)
set_option maxHeartbeats 4000000 in
set_option maxRecDepth 100000 in
theorem c_X6_minutesTo_e (l : Launch) (g : wG) (o : Nat → Nat) (r : MS) (hm5 : mM r ≤ 5) (cn : Nat) (hc : cn ≤ 6) (hz : mZ r 7 = nI cn) (a : Int32) (nf : Nat) (hi : isw a 0 360 = 0) : CtI l g 5 yX6_minutesTo cX6_minutesTo 4 (some .int) [.ref (o 0), .int a] (MW g o r) ((mMinutesTo r cn a nf).1) (MW g o (mMinutesTo r cn a nf).2) := by
  intro sz
  refine x_enter (Qc := fun A => QI g A ((mMinutesTo r cn a nf).1) (MW g o (mMinutesTo r cn a nf).2)) (by decide) (Nat.le_of_ble_eq_true rfl) ?_
  intro p e s m args below meth c X hr hlocks A hA hP hD hS ls hl
  obtain ⟨⟨hx, hb, hml, hown, hts⟩, hK, hN⟩ := id X
  have hl : lv_has ls 4 [(0, .ref (o 0)), (1, .int a)] := hl
  refine lv_iload_n hx hb dX6_minutesTo_0 rfl (lv_at hl 1 rfl) ?_
  refine lv_iconst (v := 0) hx hb dX6_minutesTo_1 (by decide) ?_
  refine lv_sipush (v := 360) hx hb dX6_minutesTo_2 (by decide) ?_
  refine x_goI (wn := MW g o r) (x_rS (As := [.int a, .int 0, .int 360]) X (c_X6_in l g a 0 360 _) yf_X6_in ys_X6_in wM_X6_33 ⟨Nat.le_of_ble_eq_true rfl, Nat.le_of_ble_eq_true rfl⟩ hP hD (p_none _) hl rfl rfl (Nat.le_of_ble_eq_true rfl) dX6_minutesTo_5 ⟨Nat.zero_le _, Nat.zero_le _⟩) hP hD hS hA (p_none _) (p_noneB _) (fun H locs hP hD hS => ?_)
  refine lv_if_ne (tgt := 15) hx hb dX6_minutesTo_8 (by decide) (fun q9 => absurd (show (isw a 0 360) = 0 from hi) q9) (fun c_1 => ?_)
  refine lv_sipush (v := (-1002)) hx hb dX6_minutesTo_11 (by decide) ?_
  have E : (MW g o r : va_W) = MW g o (mMinutesTo r cn a nf).2 := by (simp only [mMinutesTo, if_pos hi]) <;> rfl
  exact x_iret X hr hlocks (pw E hP) (dw E hD) hS (by (simp only [mMinutesTo, if_pos hi]) <;> rfl) dX6_minutesTo_14

set_option maxHeartbeats 4000000 in
set_option maxRecDepth 100000 in
theorem c_X6_minutesTo_o (l : Launch) (g : wG) (o : Nat → Nat) (r : MS) (hm5 : mM r ≤ 5) (cn : Nat) (hc : cn ≤ 6) (hz : mZ r 7 = nI cn) (a : Int32) (nf : Nat) (hnf : 0 + nf = 3000) (hi : ¬ isw a 0 360 = 0) : CtI l g 5 yX6_minutesTo cX6_minutesTo 4 (some .int) [.ref (o 0), .int a] (MW g o r) (mtM cn a nf 0 (mZ r)) (MW g o (mas r)) := by
  intro sz
  refine x_enter (Qc := fun A => QI g A (mtM cn a nf 0 (mZ r)) (MW g o (mas r))) (by decide) (Nat.le_of_ble_eq_true rfl) ?_
  intro p e s m args below meth c X hr hlocks A hA hP hD hS ls hl
  obtain ⟨⟨hx, hb, hml, hown, hts⟩, hK, hN⟩ := id X
  have hl : lv_has ls 4 [(0, .ref (o 0)), (1, .int a)] := hl
  refine lv_iload_n hx hb dX6_minutesTo_0 rfl (lv_at hl 1 rfl) ?_
  refine lv_iconst (v := 0) hx hb dX6_minutesTo_1 (by decide) ?_
  refine lv_sipush (v := 360) hx hb dX6_minutesTo_2 (by decide) ?_
  refine x_goI (wn := MW g o r) (x_rS (As := [.int a, .int 0, .int 360]) X (c_X6_in l g a 0 360 _) yf_X6_in ys_X6_in wM_X6_33 ⟨Nat.le_of_ble_eq_true rfl, Nat.le_of_ble_eq_true rfl⟩ hP hD (p_none _) hl rfl rfl (Nat.le_of_ble_eq_true rfl) dX6_minutesTo_5 ⟨Nat.zero_le _, Nat.zero_le _⟩) hP hD hS hA (p_none _) (p_noneB _) (fun H locs hP hD hS => ?_)
  refine lv_if_ne (tgt := 15) hx hb dX6_minutesTo_8 (by decide) (fun c_1 => ?_) (fun q9 => absurd (show (isw a 0 360) = 0 from q9) (show ¬ (isw a 0 360) = 0 from hi))
  refine lv_aload_n hx hb dX6_minutesTo_15 rfl (lv_at hl 0 rfl) ?_
  refine x_goV (wn := MW g o ((mZ r), (mP r), (mK r), (mZ r), (mB r), (mO r), (mM r), (mI r), (mY r), (mT r), (mS r), (mW r))) (x_rV (As := []) X (c_X6_putAside l g o r   _) yf_X6_putAside yi_X6_putAside wM_X6_126 ⟨Nat.le_of_ble_eq_true rfl, Nat.le_of_ble_eq_true rfl⟩ hP hD (p_all _) 0 rfl rfl hl rfl rfl (Nat.le_of_ble_eq_true rfl) dX6_minutesTo_16 ⟨Nat.zero_le _, Nat.zero_le _⟩) hP hD hS hA (p_all _) (p_back _) (fun H locs hP hD hS => ?_)
  refine lv_iconst (v := 0) hx hb dX6_minutesTo_19 (by decide) ?_
  refine lv_istore_n (lv' := [(2, .int 0), (0, .ref (o 0)), (1, .int a)]) hx hb dX6_minutesTo_20 rfl hl (by decide) rfl (fun ls hl => ?_)
  suffices LP21 : ∀ (n : Nat) (k : Nat) (y : RI), k + n = 3000 → y 7 = nI cn → mtM cn a n k y = mtM cn a nf 0 (mZ r) → ∀ (ls : Array Slot) (H : Heap) (locs : List Loc), va_P g.1 vwCl (MW g o (y, (mP r), (mK r), (mZ r), (mB r), (mO r), (mM r), (mI r), (mY r), (mT r), (mS r), (mW r))) H → va_D A (MW g o (y, (mP r), (mK r), (mZ r), (mB r), (mO r), (mM r), (mI r), (mY r), (mT r), (mS r), (mW r))) → va_S A s.heap H locs → lv_has ls 4 [(2, .int (nI k)), (1, .int a), (0, .ref (o 0))] → W p l e (rmD 5) s m args below meth c H locs 0 0 (MQ below (QI g A (mtM cn a nf 0 (mZ r)) (MW g o (mas r))) args s 0 0 A) (F0 m 21 ls []) from LP21 nf 0 (mZ r) hnf hz rfl ls _ _ hP hD hS (lv_sub hl [0, 2, 1] rfl)
  intro n
  induction n with
  | zero =>
    intro k y hk2 hy ht ls H locs hP hD hS hl
    refine lv_iload_n hx hb dX6_minutesTo_21 rfl (lv_at hl 0 rfl) ?_
    refine lv_sipush (v := 3000) hx hb dX6_minutesTo_22 (by decide) ?_
    refine lv_icmp_ge (tgt := 47) hx hb dX6_minutesTo_25 (by decide) (fun c_2 => ?_) (fun q9 => absurd (show 3000 ≤ (nI k) from (nI_le (a := 3000) (by omega) (by omega))) (show ¬ (3000 ≤ (nI k)) from q9))
    refine lv_aload_n hx hb dX6_minutesTo_47 rfl (lv_at hl 2 rfl) ?_
    refine x_goI (wn := MW g o (y, (mP r), (mK r), (mZ r), (mB r), (mO r), (mM r), (mI r), (mY r), (mT r), (mS r), (mW r))) (x_rV (As := []) X (c_X6_spread l g o (y, (mP r), (mK r), (mZ r), (mB r), (mO r), (mM r), (mI r), (mY r), (mT r), (mS r), (mW r))   _) yf_X6_spread yi_X6_spread wM_X6_123 ⟨Nat.le_of_ble_eq_true rfl, Nat.le_of_ble_eq_true rfl⟩ hP hD (p_all _) 0 rfl rfl hl rfl rfl (Nat.le_of_ble_eq_true rfl) dX6_minutesTo_48 ⟨Nat.zero_le _, Nat.zero_le _⟩) hP hD hS hA (p_all _) (p_back _) (fun H locs hP hD hS => ?_)
    refine lv_iload_n hx hb dX6_minutesTo_51 rfl (lv_at hl 1 rfl) ?_
    refine lv_icmp_lt (tgt := 59) hx hb dX6_minutesTo_52 (by decide) (fun (c_3 : (spM y) < a) => ?_) (fun (c_3 : ¬ (spM y) < a) => ?_)
    · refine lv_iconst (v := 0) hx hb dX6_minutesTo_59 (by decide) ?_
      refine lv_istore_n (lv' := [(3, .int 0), (2, .int (nI k)), (1, .int a), (0, .ref (o 0))]) hx hb dX6_minutesTo_60 rfl hl (by decide) rfl (fun ls hl => ?_)
      refine lv_aload_n hx hb dX6_minutesTo_61 rfl (lv_at hl 3 rfl) ?_
      refine x_goV (wn := MW g o ((mZ r), (mP r), (mK r), (mZ r), (mB r), (mO r), (mM r), (mI r), (mY r), (mT r), (mS r), (mW r))) (x_rV (As := []) X (c_X6_takeBack l g o (y, (mP r), (mK r), (mZ r), (mB r), (mO r), (mM r), (mI r), (mY r), (mT r), (mS r), (mW r))   _) yf_X6_takeBack yi_X6_takeBack wM_X6_129 ⟨Nat.le_of_ble_eq_true rfl, Nat.le_of_ble_eq_true rfl⟩ hP hD (p_all _) 0 rfl rfl hl rfl rfl (Nat.le_of_ble_eq_true rfl) dX6_minutesTo_62 ⟨Nat.zero_le _, Nat.zero_le _⟩) hP hD hS hA (p_all _) (p_back _) (fun H locs hP hD hS => ?_)
      refine lv_iload_n hx hb dX6_minutesTo_65 rfl (lv_at hl 0 rfl) ?_
      refine lv_if_eq (tgt := 73) hx hb dX6_minutesTo_66 (by decide) (fun c_4 => ?_) (fun q9 => absurd (show (0 : Int32) = 0 from (by decide)) (show ¬ ((0 : Int32) = 0) from q9))
      refine lv_sipush (v := (-1000)) hx hb dX6_minutesTo_73 (by decide) ?_
      have E : (MW g o ((mZ r), (mP r), (mK r), (mZ r), (mB r), (mO r), (mM r), (mI r), (mY r), (mT r), (mS r), (mW r)) : va_W) = MW g o (mas r) := rfl
      exact x_iret X hr hlocks (pw E hP) (dw E hD) hS (by rw [← ht]; simp only [mtM, if_pos c_3]) dX6_minutesTo_76
    · refine lv_iconst (v := 1) hx hb dX6_minutesTo_55 (by decide) ?_
      refine lv_goto (tgt := 60) hx hb dX6_minutesTo_56 (by decide) ?_
      refine lv_istore_n (lv' := [(3, .int 1), (2, .int (nI k)), (1, .int a), (0, .ref (o 0))]) hx hb dX6_minutesTo_60 rfl hl (by decide) rfl (fun ls hl => ?_)
      refine lv_aload_n hx hb dX6_minutesTo_61 rfl (lv_at hl 3 rfl) ?_
      refine x_goV (wn := MW g o ((mZ r), (mP r), (mK r), (mZ r), (mB r), (mO r), (mM r), (mI r), (mY r), (mT r), (mS r), (mW r))) (x_rV (As := []) X (c_X6_takeBack l g o (y, (mP r), (mK r), (mZ r), (mB r), (mO r), (mM r), (mI r), (mY r), (mT r), (mS r), (mW r))   _) yf_X6_takeBack yi_X6_takeBack wM_X6_129 ⟨Nat.le_of_ble_eq_true rfl, Nat.le_of_ble_eq_true rfl⟩ hP hD (p_all _) 0 rfl rfl hl rfl rfl (Nat.le_of_ble_eq_true rfl) dX6_minutesTo_62 ⟨Nat.zero_le _, Nat.zero_le _⟩) hP hD hS hA (p_all _) (p_back _) (fun H locs hP hD hS => ?_)
      refine lv_iload_n hx hb dX6_minutesTo_65 rfl (lv_at hl 0 rfl) ?_
      refine lv_if_eq (tgt := 73) hx hb dX6_minutesTo_66 (by decide) (fun q9 => absurd q9 (show ¬ (1 : Int32) = 0 from (by decide))) (fun c_5 => ?_)
      refine lv_iload_n hx hb dX6_minutesTo_69 rfl (lv_at hl 1 rfl) ?_
      refine lv_goto (tgt := 76) hx hb dX6_minutesTo_70 (by decide) ?_
      have E : (MW g o ((mZ r), (mP r), (mK r), (mZ r), (mB r), (mO r), (mM r), (mI r), (mY r), (mT r), (mS r), (mW r)) : va_W) = MW g o (mas r) := rfl
      exact x_iret X hr hlocks (pw E hP) (dw E hD) hS (by rw [← ht]; simp only [mtM, if_neg c_3]) dX6_minutesTo_76
  | succ n ih =>
    intro k y hk2 hy ht ls H locs hP hD hS hl
    refine lv_iload_n hx hb dX6_minutesTo_21 rfl (lv_at hl 0 rfl) ?_
    refine lv_sipush (v := 3000) hx hb dX6_minutesTo_22 (by decide) ?_
    refine lv_icmp_ge (tgt := 47) hx hb dX6_minutesTo_25 (by decide) (fun q9 => absurd q9 (show ¬ 3000 ≤ (nI k) from (nI_ge (b := 3000) (by omega) (by decide)))) (fun c_6 => ?_)
    refine lv_aload_n hx hb dX6_minutesTo_28 rfl (lv_at hl 2 rfl) ?_
    refine x_goI (wn := MW g o (y, (mP r), (mK r), (mZ r), (mB r), (mO r), (mM r), (mI r), (mY r), (mT r), (mS r), (mW r))) (x_rV (As := []) X (c_X6_spread l g o (y, (mP r), (mK r), (mZ r), (mB r), (mO r), (mM r), (mI r), (mY r), (mT r), (mS r), (mW r))   _) yf_X6_spread yi_X6_spread wM_X6_123 ⟨Nat.le_of_ble_eq_true rfl, Nat.le_of_ble_eq_true rfl⟩ hP hD (p_all _) 0 rfl rfl hl rfl rfl (Nat.le_of_ble_eq_true rfl) dX6_minutesTo_29 ⟨Nat.zero_le _, Nat.zero_le _⟩) hP hD hS hA (p_all _) (p_back _) (fun H locs hP hD hS => ?_)
    refine lv_iload_n hx hb dX6_minutesTo_32 rfl (lv_at hl 1 rfl) ?_
    refine lv_icmp_ge (tgt := 47) hx hb dX6_minutesTo_33 (by decide) (fun (c_7 : a ≤ (spM y)) => ?_) (fun (c_7 : ¬ a ≤ (spM y)) => ?_)
    · refine lv_aload_n hx hb dX6_minutesTo_47 rfl (lv_at hl 2 rfl) ?_
      refine x_goI (wn := MW g o (y, (mP r), (mK r), (mZ r), (mB r), (mO r), (mM r), (mI r), (mY r), (mT r), (mS r), (mW r))) (x_rV (As := []) X (c_X6_spread l g o (y, (mP r), (mK r), (mZ r), (mB r), (mO r), (mM r), (mI r), (mY r), (mT r), (mS r), (mW r))   _) yf_X6_spread yi_X6_spread wM_X6_123 ⟨Nat.le_of_ble_eq_true rfl, Nat.le_of_ble_eq_true rfl⟩ hP hD (p_all _) 0 rfl rfl hl rfl rfl (Nat.le_of_ble_eq_true rfl) dX6_minutesTo_48 ⟨Nat.zero_le _, Nat.zero_le _⟩) hP hD hS hA (p_all _) (p_back _) (fun H locs hP hD hS => ?_)
      refine lv_iload_n hx hb dX6_minutesTo_51 rfl (lv_at hl 1 rfl) ?_
      refine lv_icmp_lt (tgt := 59) hx hb dX6_minutesTo_52 (by decide) (fun q9 => absurd q9 (show ¬ (spM y) < a from (Int32.not_lt.mpr c_7))) (fun c_8 => ?_)
      refine lv_iconst (v := 1) hx hb dX6_minutesTo_55 (by decide) ?_
      refine lv_goto (tgt := 60) hx hb dX6_minutesTo_56 (by decide) ?_
      refine lv_istore_n (lv' := [(3, .int 1), (2, .int (nI k)), (1, .int a), (0, .ref (o 0))]) hx hb dX6_minutesTo_60 rfl hl (by decide) rfl (fun ls hl => ?_)
      refine lv_aload_n hx hb dX6_minutesTo_61 rfl (lv_at hl 3 rfl) ?_
      refine x_goV (wn := MW g o ((mZ r), (mP r), (mK r), (mZ r), (mB r), (mO r), (mM r), (mI r), (mY r), (mT r), (mS r), (mW r))) (x_rV (As := []) X (c_X6_takeBack l g o (y, (mP r), (mK r), (mZ r), (mB r), (mO r), (mM r), (mI r), (mY r), (mT r), (mS r), (mW r))   _) yf_X6_takeBack yi_X6_takeBack wM_X6_129 ⟨Nat.le_of_ble_eq_true rfl, Nat.le_of_ble_eq_true rfl⟩ hP hD (p_all _) 0 rfl rfl hl rfl rfl (Nat.le_of_ble_eq_true rfl) dX6_minutesTo_62 ⟨Nat.zero_le _, Nat.zero_le _⟩) hP hD hS hA (p_all _) (p_back _) (fun H locs hP hD hS => ?_)
      refine lv_iload_n hx hb dX6_minutesTo_65 rfl (lv_at hl 0 rfl) ?_
      refine lv_if_eq (tgt := 73) hx hb dX6_minutesTo_66 (by decide) (fun q9 => absurd q9 (show ¬ (1 : Int32) = 0 from (by decide))) (fun c_9 => ?_)
      refine lv_iload_n hx hb dX6_minutesTo_69 rfl (lv_at hl 1 rfl) ?_
      refine lv_goto (tgt := 76) hx hb dX6_minutesTo_70 (by decide) ?_
      have E : (MW g o ((mZ r), (mP r), (mK r), (mZ r), (mB r), (mO r), (mM r), (mI r), (mY r), (mT r), (mS r), (mW r)) : va_W) = MW g o (mas r) := rfl
      exact x_iret X hr hlocks (pw E hP) (dw E hD) hS (by rw [← ht]; simp only [mtM, if_pos c_7]) dX6_minutesTo_76
    · refine lv_aload_n hx hb dX6_minutesTo_36 rfl (lv_at hl 2 rfl) ?_
      refine x_goI (wn := MW g o ((minM cn y), (mP r), (mK r), (mZ r), (mB r), (mO r), (mM r), (mI r), (mY r), (mT r), (mS r), (mW r))) (x_rV (As := []) X (c_X6_minute l g o (y, (mP r), (mK r), (mZ r), (mB r), (mO r), (mM r), (mI r), (mY r), (mT r), (mS r), (mW r)) cn hc hy  _) yf_X6_minute yi_X6_minute wM_X6_86 ⟨Nat.le_of_ble_eq_true rfl, Nat.le_of_ble_eq_true rfl⟩ hP hD (p_all _) 0 rfl rfl hl rfl rfl (Nat.le_of_ble_eq_true rfl) dX6_minutesTo_37 ⟨Nat.zero_le _, Nat.zero_le _⟩) hP hD hS hA (p_all _) (p_back _) (fun H locs hP hD hS => ?_)
      refine lv_pop hx hb dX6_minutesTo_40 rfl ?_
      refine lv_iinc (v := (nI (k + 1))) (lv' := [(2, .int (nI (k + 1))), (1, .int a), (0, .ref (o 0))]) hx hb dX6_minutesTo_41 hl (k := 0) rfl (nI_1 _) (by decide) rfl (fun ls hl => ?_)
      refine lv_goto (tgt := 21) hx hb dX6_minutesTo_44 (by decide) ?_
      exact ih (k + 1) (minM cn y) (by omega) (by rw [minM_7]; exact hy) (by rw [← ht]; simp only [mtM, if_neg c_7]) ls _ _ hP hD hS (lv_sub hl [0, 1, 2] rfl)

theorem c_X6_minutesTo (l : Launch) (g : wG) (o : Nat → Nat) (r : MS) (hm5 : mM r ≤ 5) (cn : Nat) (hc : cn ≤ 6) (hz : mZ r 7 = nI cn) (a : Int32) (nf : Nat) (hnf : 0 + nf = 3000) : CtI l g 5 yX6_minutesTo cX6_minutesTo 4 (some .int) [.ref (o 0), .int a] (MW g o r) ((mMinutesTo r cn a nf).1) (MW g o (mMinutesTo r cn a nf).2) := by
  by_cases hi : isw a 0 360 = 0
  · exact c_X6_minutesTo_e l g o r hm5 cn hc hz a nf hi
  · have e : mMinutesTo r cn a nf = (mtM cn a nf 0 (mZ r), mas r) := by simp only [mMinutesTo, if_neg hi]
    rw [e]
    exact c_X6_minutesTo_o l g o r hm5 cn hc hz a nf hnf hi
abbrev mty (r : MS) (t : Nat) (x : RI) : MS := (mZ r, mP r, mK r, mA r, x, mO r, mM r, mI r, t, r.2.2.2.2.2.2.2.2.2)
def mAppend (r : MS) (a : Int32) : Int32 × MS := if isw a 33 126 = 0 then (-1002, r) else if nI (mY r) = 60 then (-1004, r) else (nI (mY r + 1), mty r (mY r + 1) (upd (mB r) (mY r) a))
def mClear (r : MS) : Int32 × MS := (nI (mY r), mty r 0 (mB r))
set_option maxHeartbeats 4000000 in
set_option maxRecDepth 100000 in
theorem c_X6_append_e (l : Launch) (g : wG) (o : Nat → Nat) (r : MS) (a : Int32) (hi : isw a 33 126 = 0) : CtI l g 1 yX6_append cX6_append 2 (some .int) [.ref (o 0), .int a] (MW g o r) ((mAppend r a).1) (MW g o (mAppend r a).2) := by
  intro sz
  refine x_enter (Qc := fun A => QI g A ((mAppend r a).1) (MW g o (mAppend r a).2)) (by decide) (Nat.le_of_ble_eq_true rfl) ?_
  intro p e s m args below meth c X hr hlocks A hA hP hD hS ls hl
  obtain ⟨⟨hx, hb, hml, hown, hts⟩, hK, hN⟩ := id X
  have hl : lv_has ls 2 [(0, .ref (o 0)), (1, .int a)] := hl
  refine lv_iload_n hx hb dX6_append_0 rfl (lv_at hl 1 rfl) ?_
  refine lv_bipush (v := 33) hx hb dX6_append_1 (by decide) ?_
  refine lv_bipush (v := 126) hx hb dX6_append_3 (by decide) ?_
  refine x_goI (wn := MW g o r) (x_rS (As := [.int a, .int 33, .int 126]) X (c_X6_in l g a 33 126 _) yf_X6_in ys_X6_in wM_X6_33 ⟨Nat.le_of_ble_eq_true rfl, Nat.le_of_ble_eq_true rfl⟩ hP hD (p_none _) hl rfl rfl (Nat.le_of_ble_eq_true rfl) dX6_append_5 ⟨Nat.zero_le _, Nat.zero_le _⟩) hP hD hS hA (p_none _) (p_noneB _) (fun H locs hP hD hS => ?_)
  refine lv_if_ne (tgt := 15) hx hb dX6_append_8 (by decide) (fun q9 => absurd (show (isw a 33 126) = 0 from hi) q9) (fun c_1 => ?_)
  refine lv_sipush (v := (-1002)) hx hb dX6_append_11 (by decide) ?_
  have E : (MW g o r : va_W) = MW g o (mAppend r a).2 := by (simp only [mAppend, if_pos hi]) <;> rfl
  exact x_iret X hr hlocks (pw E hP) (dw E hD) hS (by (simp only [mAppend, if_pos hi]) <;> rfl) dX6_append_14

set_option maxHeartbeats 4000000 in
set_option maxRecDepth 100000 in
theorem c_X6_append_f (l : Launch) (g : wG) (o : Nat → Nat) (r : MS) (k : Nat) (hi : ¬ isw (nI k) 33 126 = 0) (h6 : nI (mY r) = 60) : CtI l g 1 yX6_append cX6_append 2 (some .int) [.ref (o 0), .int (nI k)] (MW g o r) ((mAppend r (nI k)).1) (MW g o (mAppend r (nI k)).2) := by
  intro sz
  refine x_enter (Qc := fun A => QI g A ((mAppend r (nI k)).1) (MW g o (mAppend r (nI k)).2)) (by decide) (Nat.le_of_ble_eq_true rfl) ?_
  intro p e s m args below meth c X hr hlocks A hA hP hD hS ls hl
  obtain ⟨⟨hx, hb, hml, hown, hts⟩, hK, hN⟩ := id X
  have hl : lv_has ls 2 [(0, .ref (o 0)), (1, .int (nI k))] := hl
  refine lv_iload_n hx hb dX6_append_0 rfl (lv_at hl 1 rfl) ?_
  refine lv_bipush (v := 33) hx hb dX6_append_1 (by decide) ?_
  refine lv_bipush (v := 126) hx hb dX6_append_3 (by decide) ?_
  refine x_goI (wn := MW g o r) (x_rS (As := [.int (nI k), .int 33, .int 126]) X (c_X6_in l g (nI k) 33 126 _) yf_X6_in ys_X6_in wM_X6_33 ⟨Nat.le_of_ble_eq_true rfl, Nat.le_of_ble_eq_true rfl⟩ hP hD (p_none _) hl rfl rfl (Nat.le_of_ble_eq_true rfl) dX6_append_5 ⟨Nat.zero_le _, Nat.zero_le _⟩) hP hD hS hA (p_none _) (p_noneB _) (fun H locs hP hD hS => ?_)
  refine lv_if_ne (tgt := 15) hx hb dX6_append_8 (by decide) (fun c_1 => ?_) (fun q9 => absurd (show (isw (nI k) 33 126) = 0 from q9) (show ¬ (isw (nI k) 33 126) = 0 from hi))
  refine lv_aload_n hx hb dX6_append_15 rfl (lv_at hl 0 rfl) ?_
  refine x_get (v := .int (nI (mY r))) X 0 7 in_X6 hP rfl rfl (by decide) wF_X6_132 rfl rfl dX6_append_16 ?_
  refine lv_bipush (v := 60) hx hb dX6_append_19 (by decide) ?_
  refine lv_icmp_ne (tgt := 28) hx hb dX6_append_21 (by decide) (fun q9 => absurd (show (nI (mY r)) = 60 from h6) q9) (fun c_2 => ?_)
  refine lv_sipush (v := (-1004)) hx hb dX6_append_24 (by decide) ?_
  have E : (MW g o r : va_W) = MW g o (mAppend r (nI k)).2 := by (simp only [mAppend, if_neg hi, if_pos h6]) <;> rfl
  exact x_iret X hr hlocks (pw E hP) (dw E hD) hS (by (simp only [mAppend, if_neg hi, if_pos h6]) <;> rfl) dX6_append_27

set_option maxHeartbeats 4000000 in
set_option maxRecDepth 100000 in
theorem c_X6_append_o (l : Launch) (g : wG) (o : Nat → Nat) (r : MS) (k : Nat) (hk : k ≤ 126) (hi : ¬ isw (nI k) 33 126 = 0) (h6 : ¬ nI (mY r) = 60) (h60 : mY r < 60) : CtI l g 1 yX6_append cX6_append 2 (some .int) [.ref (o 0), .int (nI k)] (MW g o r) ((mAppend r (nI k)).1) (MW g o (mAppend r (nI k)).2) := by
  intro sz
  refine x_enter (Qc := fun A => QI g A ((mAppend r (nI k)).1) (MW g o (mAppend r (nI k)).2)) (by decide) (Nat.le_of_ble_eq_true rfl) ?_
  intro p e s m args below meth c X hr hlocks A hA hP hD hS ls hl
  obtain ⟨⟨hx, hb, hml, hown, hts⟩, hK, hN⟩ := id X
  have hl : lv_has ls 2 [(0, .ref (o 0)), (1, .int (nI k))] := hl
  refine lv_iload_n hx hb dX6_append_0 rfl (lv_at hl 1 rfl) ?_
  refine lv_bipush (v := 33) hx hb dX6_append_1 (by decide) ?_
  refine lv_bipush (v := 126) hx hb dX6_append_3 (by decide) ?_
  refine x_goI (wn := MW g o r) (x_rS (As := [.int (nI k), .int 33, .int 126]) X (c_X6_in l g (nI k) 33 126 _) yf_X6_in ys_X6_in wM_X6_33 ⟨Nat.le_of_ble_eq_true rfl, Nat.le_of_ble_eq_true rfl⟩ hP hD (p_none _) hl rfl rfl (Nat.le_of_ble_eq_true rfl) dX6_append_5 ⟨Nat.zero_le _, Nat.zero_le _⟩) hP hD hS hA (p_none _) (p_noneB _) (fun H locs hP hD hS => ?_)
  refine lv_if_ne (tgt := 15) hx hb dX6_append_8 (by decide) (fun c_1 => ?_) (fun q9 => absurd (show (isw (nI k) 33 126) = 0 from q9) (show ¬ (isw (nI k) 33 126) = 0 from hi))
  refine lv_aload_n hx hb dX6_append_15 rfl (lv_at hl 0 rfl) ?_
  refine x_get (v := .int (nI (mY r))) X 0 7 in_X6 hP rfl rfl (by decide) wF_X6_132 rfl rfl dX6_append_16 ?_
  refine lv_bipush (v := 60) hx hb dX6_append_19 (by decide) ?_
  refine lv_icmp_ne (tgt := 28) hx hb dX6_append_21 (by decide) (fun c_2 => ?_) (fun q9 => absurd (show (nI (mY r)) = 60 from q9) (show ¬ (nI (mY r)) = 60 from h6))
  refine lv_aload_n hx hb dX6_append_28 rfl (lv_at hl 0 rfl) ?_
  refine x_get (v := .ref (o 5)) X 0 6 in_X6 hP rfl rfl (by decide) wF_X6_22 rfl rfl dX6_append_29 ?_
  refine lv_aload_n hx hb dX6_append_32 rfl (lv_at hl 0 rfl) ?_
  refine x_get (v := .int (nI (mY r))) X 0 7 in_X6 hP rfl rfl (by decide) wF_X6_132 rfl rfl dX6_append_33 ?_
  refine lv_iload_n hx hb dX6_append_36 rfl (lv_at hl 1 rfl) ?_
  refine lv_i2c (v := (nI k)) hx hb dX6_append_37 (ch_i2c hk) ?_
  refine x_cast (ws2 := MW g o ((mZ r), (mP r), (mK r), (mA r), (upd (mB r) (mY r) (nI k)), (mO r), (mM r), (mI r), (mY r), (mT r), (mS r), (mW r))) X 5 (mY r) hP hD hS rfl rfl (by omega) (Nat.le_of_ble_eq_true rfl) (ch_nar hk) rfl dX6_append_38 (fun H locs hP hD hS => ?_)
  refine lv_aload_n hx hb dX6_append_39 rfl (lv_at hl 0 rfl) ?_
  refine lv_dup hx hb dX6_append_40 rfl ?_
  refine x_get (v := .int (nI (mY r))) X 0 7 in_X6 hP rfl rfl (by decide) wF_X6_132 rfl rfl dX6_append_41 ?_
  refine lv_iconst (v := 1) hx hb dX6_append_44 (by decide) ?_
  refine lv_iadd hx hb dX6_append_45 ?_
  refine W.eq (g2 := F0 m 46 ls [.int (nI ((mY r) + 1)), .ref (o 0)]) (by rw [nI_1]) ?_
  refine x_put (v := .int (nI ((mY r) + 1))) (ty0 := tyX6) (ws2 := MW g o ((mZ r), (mP r), (mK r), (mA r), (upd (mB r) (mY r) (nI k)), (mO r), (mM r), (mI r), ((mY r) + 1), (mT r), (mS r), (mW r))) X 0 7 in_X6 tyX6_ok nmX6 hP hD hS rfl rfl (by decide) wF_X6_132 rfl rfl rfl rfl (Nat.le_of_ble_eq_true rfl) rfl dX6_append_46 (fun H locs hP hD hS => ?_)
  refine lv_aload_n hx hb dX6_append_49 rfl (lv_at hl 0 rfl) ?_
  refine x_get (v := .int (nI ((mY r) + 1))) X 0 7 in_X6 hP rfl rfl (by decide) wF_X6_132 rfl rfl dX6_append_50 ?_
  have E : (MW g o ((mZ r), (mP r), (mK r), (mA r), (upd (mB r) (mY r) (nI k)), (mO r), (mM r), (mI r), ((mY r) + 1), (mT r), (mS r), (mW r)) : va_W) = MW g o (mAppend r (nI k)).2 := by (simp only [mAppend, if_neg hi, if_neg h6]) <;> rfl
  exact x_iret X hr hlocks (pw E hP) (dw E hD) hS (by (simp only [mAppend, if_neg hi, if_neg h6]) <;> rfl) dX6_append_53

theorem c_X6_append (l : Launch) (g : wG) (o : Nat → Nat) (r : MS) (hy6 : mY r ≤ 60) (a : Int32) : CtI l g 1 yX6_append cX6_append 2 (some .int) [.ref (o 0), .int a] (MW g o r) ((mAppend r a).1) (MW g o (mAppend r a).2) := by
  by_cases ha : isw a 33 126 = 0
  · exact c_X6_append_e l g o r a ha
  · obtain ⟨k, -, hk, rfl⟩ := isw_lo (a := 33) (b := 126) (by decide) ha (by decide)
    by_cases h6 : nI (mY r) = 60
    · exact c_X6_append_f l g o r k ha h6
    · refine c_X6_append_o l g o r k hk ha h6 ?_
      rcases Nat.lt_or_ge (mY r) 60 with q | q
      · exact q
      · exact absurd (by rw [show mY r = 60 by omega]; rfl) h6
set_option maxHeartbeats 4000000 in
set_option maxRecDepth 100000 in
theorem c_X6_clearText (l : Launch) (g : wG) (o : Nat → Nat) (r : MS) : CtI l g 0 yX6_clearText cX6_clearText 2 (some .int) [.ref (o 0)] (MW g o r) ((mClear r).1) (MW g o (mClear r).2) := by
  intro sz
  refine x_enter (Qc := fun A => QI g A ((mClear r).1) (MW g o (mClear r).2)) (by decide) (Nat.le_of_ble_eq_true rfl) ?_
  intro p e s m args below meth c X hr hlocks A hA hP hD hS ls hl
  obtain ⟨⟨hx, hb, hml, hown, hts⟩, hK, hN⟩ := id X
  have hl : lv_has ls 2 [(0, .ref (o 0))] := hl
  refine lv_aload_n hx hb dX6_clearText_0 rfl (lv_at hl 0 rfl) ?_
  refine x_get (v := .int (nI (mY r))) X 0 7 in_X6 hP rfl rfl (by decide) wF_X6_132 rfl rfl dX6_clearText_1 ?_
  refine lv_istore_n (lv' := [(1, .int (nI (mY r))), (0, .ref (o 0))]) hx hb dX6_clearText_4 rfl hl (by decide) rfl (fun ls hl => ?_)
  refine lv_aload_n hx hb dX6_clearText_5 rfl (lv_at hl 1 rfl) ?_
  refine lv_iconst (v := 0) hx hb dX6_clearText_6 (by decide) ?_
  refine x_put (v := .int 0) (ty0 := tyX6) (ws2 := MW g o ((mZ r), (mP r), (mK r), (mA r), (mB r), (mO r), (mM r), (mI r), 0, (mT r), (mS r), (mW r))) X 0 7 in_X6 tyX6_ok nmX6 hP hD hS rfl rfl (by decide) wF_X6_132 rfl rfl rfl rfl (Nat.le_of_ble_eq_true rfl) rfl dX6_clearText_7 (fun H locs hP hD hS => ?_)
  refine lv_iload_n hx hb dX6_clearText_10 rfl (lv_at hl 0 rfl) ?_
  have E : (MW g o ((mZ r), (mP r), (mK r), (mA r), (mB r), (mO r), (mM r), (mI r), 0, (mT r), (mS r), (mW r)) : va_W) = MW g o (mClear r).2 := by (simp only [mClear]) <;> rfl
  exact x_iret X hr hlocks (pw E hP) (dw E hD) hS (by (simp only [mClear]) <;> rfl) dX6_clearText_11

set_option maxHeartbeats 4000000 in
set_option maxRecDepth 100000 in
theorem c_X6_doOne_f0 (l : Launch) (g : wG) (o : Nat → Nat) (r : MS) (j : Nat) (hj : j ≤ 60) (ho : mO r j = 102) (hk : mO r (j + 1) = 0) : CtI l g 6 yX6_doOne cX6_doOne 5 (some .int) [.ref (o 0), .int (nI j)] (MW g o r) 0 (MW g o (mz r (upd (mZ r) 8 (mO r (j + 2))))) := by
  intro sz
  refine x_enter (Qc := fun A => QI g A 0 (MW g o (mz r (upd (mZ r) 8 (mO r (j + 2)))))) (by decide) (Nat.le_of_ble_eq_true rfl) ?_
  intro p e s m args below meth c X hr hlocks A hA hP hD hS ls hl
  obtain ⟨⟨hx, hb, hml, hown, hts⟩, hK, hN⟩ := id X
  have hl : lv_has ls 5 [(0, .ref (o 0)), (1, .int (nI j))] := hl
  refine lv_aload_n hx hb dX6_doOne_0 rfl (lv_at hl 0 rfl) ?_
  refine x_get (v := .ref (o 6)) X 0 8 in_X6 hP rfl rfl (by decide) wF_X6_26 rfl rfl dX6_doOne_1 ?_
  refine lv_iload_n hx hb dX6_doOne_4 rfl (lv_at hl 1 rfl) ?_
  refine lv_iconst (v := 1) hx hb dX6_doOne_5 (by decide) ?_
  refine lv_iadd hx hb dX6_doOne_6 ?_
  refine x_iald (v := ((mO r) (j + 1))) X 6 (j + 1) hP rfl (nI_1 j) (by omega) (Nat.le_of_ble_eq_true rfl) rfl dX6_doOne_7 ?_
  refine W.eq (g2 := F0 m 8 ls [.int 0]) (by rw [hk]) ?_
  refine lv_istore_n (lv' := [(2, .int 0), (0, .ref (o 0)), (1, .int (nI j))]) hx hb dX6_doOne_8 rfl hl (by decide) rfl (fun ls hl => ?_)
  refine lv_aload_n hx hb dX6_doOne_9 rfl (lv_at hl 1 rfl) ?_
  refine x_get (v := .ref (o 6)) X 0 8 in_X6 hP rfl rfl (by decide) wF_X6_26 rfl rfl dX6_doOne_10 ?_
  refine lv_iload_n hx hb dX6_doOne_13 rfl (lv_at hl 2 rfl) ?_
  refine lv_iconst (v := 2) hx hb dX6_doOne_14 (by decide) ?_
  refine lv_iadd hx hb dX6_doOne_15 ?_
  refine x_iald (v := ((mO r) (j + 2))) X 6 (j + 2) hP rfl (nI_add j 2) (by omega) (Nat.le_of_ble_eq_true rfl) rfl dX6_doOne_16 ?_
  refine lv_istore_n (lv' := [(3, .int ((mO r) (j + 2))), (2, .int 0), (0, .ref (o 0)), (1, .int (nI j))]) hx hb dX6_doOne_17 rfl hl (by decide) rfl (fun ls hl => ?_)
  refine lv_iconst (v := 0) hx hb dX6_doOne_18 (by decide) ?_
  refine lv_istore (lv' := [(4, .int 0), (3, .int ((mO r) (j + 2))), (2, .int 0), (0, .ref (o 0)), (1, .int (nI j))]) hx hb dX6_doOne_19 hl (by decide) rfl (fun ls hl => ?_)
  refine lv_aload_n hx hb dX6_doOne_21 rfl (lv_at hl 3 rfl) ?_
  refine x_get (v := .ref (o 6)) X 0 8 in_X6 hP rfl rfl (by decide) wF_X6_26 rfl rfl dX6_doOne_22 ?_
  refine lv_iload_n hx hb dX6_doOne_25 rfl (lv_at hl 4 rfl) ?_
  refine x_iald (v := ((mO r) j)) X 6 j hP rfl rfl (by omega) (Nat.le_of_ble_eq_true rfl) rfl dX6_doOne_26 ?_
  refine W.eq (g2 := F0 m 27 ls [.int 102]) (by rw [ho]) ?_
  refine lv_lookup (off := 41) (tgt := 68) hx hb dX6_doOne_27 (by decide) rfl (by decide) ?_
  refine lv_aload_n hx hb dX6_doOne_68 rfl (lv_at hl 3 rfl) ?_
  refine lv_iload_n hx hb dX6_doOne_69 rfl (lv_at hl 2 rfl) ?_
  refine lv_iload_n hx hb dX6_doOne_70 rfl (lv_at hl 1 rfl) ?_
  refine x_goI (wn := MW g o (mz r (upd (mZ r) 8 ((mO r) (j + 2))))) (x_rV (As := [.int 0, .int ((mO r) (j + 2))]) X (c_X6_dials_0 l g o r ((mO r) (j + 2))  _) yf_X6_dials yi_X6_dials wM_X6_67 ⟨Nat.le_of_ble_eq_true rfl, Nat.le_of_ble_eq_true rfl⟩ hP hD (p_all _) 0 rfl rfl hl rfl rfl (Nat.le_of_ble_eq_true rfl) dX6_doOne_71 ⟨Nat.zero_le _, Nat.zero_le _⟩) hP hD hS hA (p_all _) (p_back _) (fun H locs hP hD hS => ?_)
  refine lv_pop hx hb dX6_doOne_74 rfl ?_
  refine lv_goto (tgt := 137) hx hb dX6_doOne_75 (by decide) ?_
  refine lv_iload hx hb dX6_doOne_137 (lv_at hl 0 rfl) ?_
  have E : (MW g o (mz r (upd (mZ r) 8 ((mO r) (j + 2)))) : va_W) = MW g o (mz r (upd (mZ r) 8 (mO r (j + 2)))) := rfl
  exact x_iret X hr hlocks (pw E hP) (dw E hD) hS rfl dX6_doOne_139

set_option maxHeartbeats 4000000 in
set_option maxRecDepth 100000 in
theorem c_X6_doOne_f1 (l : Launch) (g : wG) (o : Nat → Nat) (r : MS) (j : Nat) (hj : j ≤ 60) (ho : mO r j = 102) (hk : mO r (j + 1) = 1) : CtI l g 6 yX6_doOne cX6_doOne 5 (some .int) [.ref (o 0), .int (nI j)] (MW g o r) 0 (MW g o (mz r (upd (mZ r) 15 (mO r (j + 2))))) := by
  intro sz
  refine x_enter (Qc := fun A => QI g A 0 (MW g o (mz r (upd (mZ r) 15 (mO r (j + 2)))))) (by decide) (Nat.le_of_ble_eq_true rfl) ?_
  intro p e s m args below meth c X hr hlocks A hA hP hD hS ls hl
  obtain ⟨⟨hx, hb, hml, hown, hts⟩, hK, hN⟩ := id X
  have hl : lv_has ls 5 [(0, .ref (o 0)), (1, .int (nI j))] := hl
  refine lv_aload_n hx hb dX6_doOne_0 rfl (lv_at hl 0 rfl) ?_
  refine x_get (v := .ref (o 6)) X 0 8 in_X6 hP rfl rfl (by decide) wF_X6_26 rfl rfl dX6_doOne_1 ?_
  refine lv_iload_n hx hb dX6_doOne_4 rfl (lv_at hl 1 rfl) ?_
  refine lv_iconst (v := 1) hx hb dX6_doOne_5 (by decide) ?_
  refine lv_iadd hx hb dX6_doOne_6 ?_
  refine x_iald (v := ((mO r) (j + 1))) X 6 (j + 1) hP rfl (nI_1 j) (by omega) (Nat.le_of_ble_eq_true rfl) rfl dX6_doOne_7 ?_
  refine W.eq (g2 := F0 m 8 ls [.int 1]) (by rw [hk]) ?_
  refine lv_istore_n (lv' := [(2, .int 1), (0, .ref (o 0)), (1, .int (nI j))]) hx hb dX6_doOne_8 rfl hl (by decide) rfl (fun ls hl => ?_)
  refine lv_aload_n hx hb dX6_doOne_9 rfl (lv_at hl 1 rfl) ?_
  refine x_get (v := .ref (o 6)) X 0 8 in_X6 hP rfl rfl (by decide) wF_X6_26 rfl rfl dX6_doOne_10 ?_
  refine lv_iload_n hx hb dX6_doOne_13 rfl (lv_at hl 2 rfl) ?_
  refine lv_iconst (v := 2) hx hb dX6_doOne_14 (by decide) ?_
  refine lv_iadd hx hb dX6_doOne_15 ?_
  refine x_iald (v := ((mO r) (j + 2))) X 6 (j + 2) hP rfl (nI_add j 2) (by omega) (Nat.le_of_ble_eq_true rfl) rfl dX6_doOne_16 ?_
  refine lv_istore_n (lv' := [(3, .int ((mO r) (j + 2))), (2, .int 1), (0, .ref (o 0)), (1, .int (nI j))]) hx hb dX6_doOne_17 rfl hl (by decide) rfl (fun ls hl => ?_)
  refine lv_iconst (v := 0) hx hb dX6_doOne_18 (by decide) ?_
  refine lv_istore (lv' := [(4, .int 0), (3, .int ((mO r) (j + 2))), (2, .int 1), (0, .ref (o 0)), (1, .int (nI j))]) hx hb dX6_doOne_19 hl (by decide) rfl (fun ls hl => ?_)
  refine lv_aload_n hx hb dX6_doOne_21 rfl (lv_at hl 3 rfl) ?_
  refine x_get (v := .ref (o 6)) X 0 8 in_X6 hP rfl rfl (by decide) wF_X6_26 rfl rfl dX6_doOne_22 ?_
  refine lv_iload_n hx hb dX6_doOne_25 rfl (lv_at hl 4 rfl) ?_
  refine x_iald (v := ((mO r) j)) X 6 j hP rfl rfl (by omega) (Nat.le_of_ble_eq_true rfl) rfl dX6_doOne_26 ?_
  refine W.eq (g2 := F0 m 27 ls [.int 102]) (by rw [ho]) ?_
  refine lv_lookup (off := 41) (tgt := 68) hx hb dX6_doOne_27 (by decide) rfl (by decide) ?_
  refine lv_aload_n hx hb dX6_doOne_68 rfl (lv_at hl 3 rfl) ?_
  refine lv_iload_n hx hb dX6_doOne_69 rfl (lv_at hl 2 rfl) ?_
  refine lv_iload_n hx hb dX6_doOne_70 rfl (lv_at hl 1 rfl) ?_
  refine x_goI (wn := MW g o (mz r (upd (mZ r) 15 ((mO r) (j + 2))))) (x_rV (As := [.int 1, .int ((mO r) (j + 2))]) X (c_X6_dials_1 l g o r ((mO r) (j + 2))  _) yf_X6_dials yi_X6_dials wM_X6_67 ⟨Nat.le_of_ble_eq_true rfl, Nat.le_of_ble_eq_true rfl⟩ hP hD (p_all _) 0 rfl rfl hl rfl rfl (Nat.le_of_ble_eq_true rfl) dX6_doOne_71 ⟨Nat.zero_le _, Nat.zero_le _⟩) hP hD hS hA (p_all _) (p_back _) (fun H locs hP hD hS => ?_)
  refine lv_pop hx hb dX6_doOne_74 rfl ?_
  refine lv_goto (tgt := 137) hx hb dX6_doOne_75 (by decide) ?_
  refine lv_iload hx hb dX6_doOne_137 (lv_at hl 0 rfl) ?_
  have E : (MW g o (mz r (upd (mZ r) 15 ((mO r) (j + 2)))) : va_W) = MW g o (mz r (upd (mZ r) 15 (mO r (j + 2)))) := rfl
  exact x_iret X hr hlocks (pw E hP) (dw E hD) hS rfl dX6_doOne_139

set_option maxHeartbeats 4000000 in
set_option maxRecDepth 100000 in
theorem c_X6_doOne_f2 (l : Launch) (g : wG) (o : Nat → Nat) (r : MS) (j : Nat) (hj : j ≤ 60) (ho : mO r j = 102) (hk : mO r (j + 1) = 2) : CtI l g 6 yX6_doOne cX6_doOne 5 (some .int) [.ref (o 0), .int (nI j)] (MW g o r) 0 (MW g o (mz r (upd (mZ r) 22 (mO r (j + 2))))) := by
  intro sz
  refine x_enter (Qc := fun A => QI g A 0 (MW g o (mz r (upd (mZ r) 22 (mO r (j + 2)))))) (by decide) (Nat.le_of_ble_eq_true rfl) ?_
  intro p e s m args below meth c X hr hlocks A hA hP hD hS ls hl
  obtain ⟨⟨hx, hb, hml, hown, hts⟩, hK, hN⟩ := id X
  have hl : lv_has ls 5 [(0, .ref (o 0)), (1, .int (nI j))] := hl
  refine lv_aload_n hx hb dX6_doOne_0 rfl (lv_at hl 0 rfl) ?_
  refine x_get (v := .ref (o 6)) X 0 8 in_X6 hP rfl rfl (by decide) wF_X6_26 rfl rfl dX6_doOne_1 ?_
  refine lv_iload_n hx hb dX6_doOne_4 rfl (lv_at hl 1 rfl) ?_
  refine lv_iconst (v := 1) hx hb dX6_doOne_5 (by decide) ?_
  refine lv_iadd hx hb dX6_doOne_6 ?_
  refine x_iald (v := ((mO r) (j + 1))) X 6 (j + 1) hP rfl (nI_1 j) (by omega) (Nat.le_of_ble_eq_true rfl) rfl dX6_doOne_7 ?_
  refine W.eq (g2 := F0 m 8 ls [.int 2]) (by rw [hk]) ?_
  refine lv_istore_n (lv' := [(2, .int 2), (0, .ref (o 0)), (1, .int (nI j))]) hx hb dX6_doOne_8 rfl hl (by decide) rfl (fun ls hl => ?_)
  refine lv_aload_n hx hb dX6_doOne_9 rfl (lv_at hl 1 rfl) ?_
  refine x_get (v := .ref (o 6)) X 0 8 in_X6 hP rfl rfl (by decide) wF_X6_26 rfl rfl dX6_doOne_10 ?_
  refine lv_iload_n hx hb dX6_doOne_13 rfl (lv_at hl 2 rfl) ?_
  refine lv_iconst (v := 2) hx hb dX6_doOne_14 (by decide) ?_
  refine lv_iadd hx hb dX6_doOne_15 ?_
  refine x_iald (v := ((mO r) (j + 2))) X 6 (j + 2) hP rfl (nI_add j 2) (by omega) (Nat.le_of_ble_eq_true rfl) rfl dX6_doOne_16 ?_
  refine lv_istore_n (lv' := [(3, .int ((mO r) (j + 2))), (2, .int 2), (0, .ref (o 0)), (1, .int (nI j))]) hx hb dX6_doOne_17 rfl hl (by decide) rfl (fun ls hl => ?_)
  refine lv_iconst (v := 0) hx hb dX6_doOne_18 (by decide) ?_
  refine lv_istore (lv' := [(4, .int 0), (3, .int ((mO r) (j + 2))), (2, .int 2), (0, .ref (o 0)), (1, .int (nI j))]) hx hb dX6_doOne_19 hl (by decide) rfl (fun ls hl => ?_)
  refine lv_aload_n hx hb dX6_doOne_21 rfl (lv_at hl 3 rfl) ?_
  refine x_get (v := .ref (o 6)) X 0 8 in_X6 hP rfl rfl (by decide) wF_X6_26 rfl rfl dX6_doOne_22 ?_
  refine lv_iload_n hx hb dX6_doOne_25 rfl (lv_at hl 4 rfl) ?_
  refine x_iald (v := ((mO r) j)) X 6 j hP rfl rfl (by omega) (Nat.le_of_ble_eq_true rfl) rfl dX6_doOne_26 ?_
  refine W.eq (g2 := F0 m 27 ls [.int 102]) (by rw [ho]) ?_
  refine lv_lookup (off := 41) (tgt := 68) hx hb dX6_doOne_27 (by decide) rfl (by decide) ?_
  refine lv_aload_n hx hb dX6_doOne_68 rfl (lv_at hl 3 rfl) ?_
  refine lv_iload_n hx hb dX6_doOne_69 rfl (lv_at hl 2 rfl) ?_
  refine lv_iload_n hx hb dX6_doOne_70 rfl (lv_at hl 1 rfl) ?_
  refine x_goI (wn := MW g o (mz r (upd (mZ r) 22 ((mO r) (j + 2))))) (x_rV (As := [.int 2, .int ((mO r) (j + 2))]) X (c_X6_dials_2 l g o r ((mO r) (j + 2))  _) yf_X6_dials yi_X6_dials wM_X6_67 ⟨Nat.le_of_ble_eq_true rfl, Nat.le_of_ble_eq_true rfl⟩ hP hD (p_all _) 0 rfl rfl hl rfl rfl (Nat.le_of_ble_eq_true rfl) dX6_doOne_71 ⟨Nat.zero_le _, Nat.zero_le _⟩) hP hD hS hA (p_all _) (p_back _) (fun H locs hP hD hS => ?_)
  refine lv_pop hx hb dX6_doOne_74 rfl ?_
  refine lv_goto (tgt := 137) hx hb dX6_doOne_75 (by decide) ?_
  refine lv_iload hx hb dX6_doOne_137 (lv_at hl 0 rfl) ?_
  have E : (MW g o (mz r (upd (mZ r) 22 ((mO r) (j + 2)))) : va_W) = MW g o (mz r (upd (mZ r) 22 (mO r (j + 2)))) := rfl
  exact x_iret X hr hlocks (pw E hP) (dw E hD) hS rfl dX6_doOne_139

set_option maxHeartbeats 4000000 in
set_option maxRecDepth 100000 in
theorem c_X6_doOne_f3 (l : Launch) (g : wG) (o : Nat → Nat) (r : MS) (j : Nat) (hj : j ≤ 60) (ho : mO r j = 102) (hk : mO r (j + 1) = 3) : CtI l g 6 yX6_doOne cX6_doOne 5 (some .int) [.ref (o 0), .int (nI j)] (MW g o r) 0 (MW g o (mz r (upd (mZ r) 29 (mO r (j + 2))))) := by
  intro sz
  refine x_enter (Qc := fun A => QI g A 0 (MW g o (mz r (upd (mZ r) 29 (mO r (j + 2)))))) (by decide) (Nat.le_of_ble_eq_true rfl) ?_
  intro p e s m args below meth c X hr hlocks A hA hP hD hS ls hl
  obtain ⟨⟨hx, hb, hml, hown, hts⟩, hK, hN⟩ := id X
  have hl : lv_has ls 5 [(0, .ref (o 0)), (1, .int (nI j))] := hl
  refine lv_aload_n hx hb dX6_doOne_0 rfl (lv_at hl 0 rfl) ?_
  refine x_get (v := .ref (o 6)) X 0 8 in_X6 hP rfl rfl (by decide) wF_X6_26 rfl rfl dX6_doOne_1 ?_
  refine lv_iload_n hx hb dX6_doOne_4 rfl (lv_at hl 1 rfl) ?_
  refine lv_iconst (v := 1) hx hb dX6_doOne_5 (by decide) ?_
  refine lv_iadd hx hb dX6_doOne_6 ?_
  refine x_iald (v := ((mO r) (j + 1))) X 6 (j + 1) hP rfl (nI_1 j) (by omega) (Nat.le_of_ble_eq_true rfl) rfl dX6_doOne_7 ?_
  refine W.eq (g2 := F0 m 8 ls [.int 3]) (by rw [hk]) ?_
  refine lv_istore_n (lv' := [(2, .int 3), (0, .ref (o 0)), (1, .int (nI j))]) hx hb dX6_doOne_8 rfl hl (by decide) rfl (fun ls hl => ?_)
  refine lv_aload_n hx hb dX6_doOne_9 rfl (lv_at hl 1 rfl) ?_
  refine x_get (v := .ref (o 6)) X 0 8 in_X6 hP rfl rfl (by decide) wF_X6_26 rfl rfl dX6_doOne_10 ?_
  refine lv_iload_n hx hb dX6_doOne_13 rfl (lv_at hl 2 rfl) ?_
  refine lv_iconst (v := 2) hx hb dX6_doOne_14 (by decide) ?_
  refine lv_iadd hx hb dX6_doOne_15 ?_
  refine x_iald (v := ((mO r) (j + 2))) X 6 (j + 2) hP rfl (nI_add j 2) (by omega) (Nat.le_of_ble_eq_true rfl) rfl dX6_doOne_16 ?_
  refine lv_istore_n (lv' := [(3, .int ((mO r) (j + 2))), (2, .int 3), (0, .ref (o 0)), (1, .int (nI j))]) hx hb dX6_doOne_17 rfl hl (by decide) rfl (fun ls hl => ?_)
  refine lv_iconst (v := 0) hx hb dX6_doOne_18 (by decide) ?_
  refine lv_istore (lv' := [(4, .int 0), (3, .int ((mO r) (j + 2))), (2, .int 3), (0, .ref (o 0)), (1, .int (nI j))]) hx hb dX6_doOne_19 hl (by decide) rfl (fun ls hl => ?_)
  refine lv_aload_n hx hb dX6_doOne_21 rfl (lv_at hl 3 rfl) ?_
  refine x_get (v := .ref (o 6)) X 0 8 in_X6 hP rfl rfl (by decide) wF_X6_26 rfl rfl dX6_doOne_22 ?_
  refine lv_iload_n hx hb dX6_doOne_25 rfl (lv_at hl 4 rfl) ?_
  refine x_iald (v := ((mO r) j)) X 6 j hP rfl rfl (by omega) (Nat.le_of_ble_eq_true rfl) rfl dX6_doOne_26 ?_
  refine W.eq (g2 := F0 m 27 ls [.int 102]) (by rw [ho]) ?_
  refine lv_lookup (off := 41) (tgt := 68) hx hb dX6_doOne_27 (by decide) rfl (by decide) ?_
  refine lv_aload_n hx hb dX6_doOne_68 rfl (lv_at hl 3 rfl) ?_
  refine lv_iload_n hx hb dX6_doOne_69 rfl (lv_at hl 2 rfl) ?_
  refine lv_iload_n hx hb dX6_doOne_70 rfl (lv_at hl 1 rfl) ?_
  refine x_goI (wn := MW g o (mz r (upd (mZ r) 29 ((mO r) (j + 2))))) (x_rV (As := [.int 3, .int ((mO r) (j + 2))]) X (c_X6_dials_3 l g o r ((mO r) (j + 2))  _) yf_X6_dials yi_X6_dials wM_X6_67 ⟨Nat.le_of_ble_eq_true rfl, Nat.le_of_ble_eq_true rfl⟩ hP hD (p_all _) 0 rfl rfl hl rfl rfl (Nat.le_of_ble_eq_true rfl) dX6_doOne_71 ⟨Nat.zero_le _, Nat.zero_le _⟩) hP hD hS hA (p_all _) (p_back _) (fun H locs hP hD hS => ?_)
  refine lv_pop hx hb dX6_doOne_74 rfl ?_
  refine lv_goto (tgt := 137) hx hb dX6_doOne_75 (by decide) ?_
  refine lv_iload hx hb dX6_doOne_137 (lv_at hl 0 rfl) ?_
  have E : (MW g o (mz r (upd (mZ r) 29 ((mO r) (j + 2)))) : va_W) = MW g o (mz r (upd (mZ r) 29 (mO r (j + 2)))) := rfl
  exact x_iret X hr hlocks (pw E hP) (dw E hD) hS rfl dX6_doOne_139

set_option maxHeartbeats 4000000 in
set_option maxRecDepth 100000 in
theorem c_X6_doOne_o0 (l : Launch) (g : wG) (o : Nat → Nat) (r : MS) (j : Nat) (hj : j ≤ 60) (ho : mO r j = 111) (hk : mO r (j + 1) = 0) : CtI l g 6 yX6_doOne cX6_doOne 5 (some .int) [.ref (o 0), .int (nI j)] (MW g o r) 0 (MW g o (mz r (oilM 8 (mZ r)))) := by
  intro sz
  refine x_enter (Qc := fun A => QI g A 0 (MW g o (mz r (oilM 8 (mZ r))))) (by decide) (Nat.le_of_ble_eq_true rfl) ?_
  intro p e s m args below meth c X hr hlocks A hA hP hD hS ls hl
  obtain ⟨⟨hx, hb, hml, hown, hts⟩, hK, hN⟩ := id X
  have hl : lv_has ls 5 [(0, .ref (o 0)), (1, .int (nI j))] := hl
  refine lv_aload_n hx hb dX6_doOne_0 rfl (lv_at hl 0 rfl) ?_
  refine x_get (v := .ref (o 6)) X 0 8 in_X6 hP rfl rfl (by decide) wF_X6_26 rfl rfl dX6_doOne_1 ?_
  refine lv_iload_n hx hb dX6_doOne_4 rfl (lv_at hl 1 rfl) ?_
  refine lv_iconst (v := 1) hx hb dX6_doOne_5 (by decide) ?_
  refine lv_iadd hx hb dX6_doOne_6 ?_
  refine x_iald (v := ((mO r) (j + 1))) X 6 (j + 1) hP rfl (nI_1 j) (by omega) (Nat.le_of_ble_eq_true rfl) rfl dX6_doOne_7 ?_
  refine W.eq (g2 := F0 m 8 ls [.int 0]) (by rw [hk]) ?_
  refine lv_istore_n (lv' := [(2, .int 0), (0, .ref (o 0)), (1, .int (nI j))]) hx hb dX6_doOne_8 rfl hl (by decide) rfl (fun ls hl => ?_)
  refine lv_aload_n hx hb dX6_doOne_9 rfl (lv_at hl 1 rfl) ?_
  refine x_get (v := .ref (o 6)) X 0 8 in_X6 hP rfl rfl (by decide) wF_X6_26 rfl rfl dX6_doOne_10 ?_
  refine lv_iload_n hx hb dX6_doOne_13 rfl (lv_at hl 2 rfl) ?_
  refine lv_iconst (v := 2) hx hb dX6_doOne_14 (by decide) ?_
  refine lv_iadd hx hb dX6_doOne_15 ?_
  refine x_iald (v := ((mO r) (j + 2))) X 6 (j + 2) hP rfl (nI_add j 2) (by omega) (Nat.le_of_ble_eq_true rfl) rfl dX6_doOne_16 ?_
  refine lv_istore_n (lv' := [(3, .int ((mO r) (j + 2))), (2, .int 0), (0, .ref (o 0)), (1, .int (nI j))]) hx hb dX6_doOne_17 rfl hl (by decide) rfl (fun ls hl => ?_)
  refine lv_iconst (v := 0) hx hb dX6_doOne_18 (by decide) ?_
  refine lv_istore (lv' := [(4, .int 0), (3, .int ((mO r) (j + 2))), (2, .int 0), (0, .ref (o 0)), (1, .int (nI j))]) hx hb dX6_doOne_19 hl (by decide) rfl (fun ls hl => ?_)
  refine lv_aload_n hx hb dX6_doOne_21 rfl (lv_at hl 3 rfl) ?_
  refine x_get (v := .ref (o 6)) X 0 8 in_X6 hP rfl rfl (by decide) wF_X6_26 rfl rfl dX6_doOne_22 ?_
  refine lv_iload_n hx hb dX6_doOne_25 rfl (lv_at hl 4 rfl) ?_
  refine x_iald (v := ((mO r) j)) X 6 j hP rfl rfl (by omega) (Nat.le_of_ble_eq_true rfl) rfl dX6_doOne_26 ?_
  refine W.eq (g2 := F0 m 27 ls [.int 111]) (by rw [ho]) ?_
  refine lv_lookup (off := 95) (tgt := 122) hx hb dX6_doOne_27 (by decide) rfl (by decide) ?_
  refine lv_aload_n hx hb dX6_doOne_122 rfl (lv_at hl 3 rfl) ?_
  refine lv_iload_n hx hb dX6_doOne_123 rfl (lv_at hl 2 rfl) ?_
  refine x_goI (wn := MW g o (mz r (oilM 8 (mZ r)))) (x_rV (As := [.int 0]) X (c_X6_oils_0 l g o r   _) yf_X6_oils yi_X6_oils wM_X6_60 ⟨Nat.le_of_ble_eq_true rfl, Nat.le_of_ble_eq_true rfl⟩ hP hD (p_all _) 0 rfl rfl hl rfl rfl (Nat.le_of_ble_eq_true rfl) dX6_doOne_124 ⟨Nat.zero_le _, Nat.zero_le _⟩) hP hD hS hA (p_all _) (p_back _) (fun H locs hP hD hS => ?_)
  refine lv_pop hx hb dX6_doOne_127 rfl ?_
  refine lv_goto (tgt := 137) hx hb dX6_doOne_128 (by decide) ?_
  refine lv_iload hx hb dX6_doOne_137 (lv_at hl 0 rfl) ?_
  have E : (MW g o (mz r (oilM 8 (mZ r))) : va_W) = MW g o (mz r (oilM 8 (mZ r))) := rfl
  exact x_iret X hr hlocks (pw E hP) (dw E hD) hS rfl dX6_doOne_139

set_option maxHeartbeats 4000000 in
set_option maxRecDepth 100000 in
theorem c_X6_doOne_o1 (l : Launch) (g : wG) (o : Nat → Nat) (r : MS) (j : Nat) (hj : j ≤ 60) (ho : mO r j = 111) (hk : mO r (j + 1) = 1) : CtI l g 6 yX6_doOne cX6_doOne 5 (some .int) [.ref (o 0), .int (nI j)] (MW g o r) 0 (MW g o (mz r (oilM 15 (mZ r)))) := by
  intro sz
  refine x_enter (Qc := fun A => QI g A 0 (MW g o (mz r (oilM 15 (mZ r))))) (by decide) (Nat.le_of_ble_eq_true rfl) ?_
  intro p e s m args below meth c X hr hlocks A hA hP hD hS ls hl
  obtain ⟨⟨hx, hb, hml, hown, hts⟩, hK, hN⟩ := id X
  have hl : lv_has ls 5 [(0, .ref (o 0)), (1, .int (nI j))] := hl
  refine lv_aload_n hx hb dX6_doOne_0 rfl (lv_at hl 0 rfl) ?_
  refine x_get (v := .ref (o 6)) X 0 8 in_X6 hP rfl rfl (by decide) wF_X6_26 rfl rfl dX6_doOne_1 ?_
  refine lv_iload_n hx hb dX6_doOne_4 rfl (lv_at hl 1 rfl) ?_
  refine lv_iconst (v := 1) hx hb dX6_doOne_5 (by decide) ?_
  refine lv_iadd hx hb dX6_doOne_6 ?_
  refine x_iald (v := ((mO r) (j + 1))) X 6 (j + 1) hP rfl (nI_1 j) (by omega) (Nat.le_of_ble_eq_true rfl) rfl dX6_doOne_7 ?_
  refine W.eq (g2 := F0 m 8 ls [.int 1]) (by rw [hk]) ?_
  refine lv_istore_n (lv' := [(2, .int 1), (0, .ref (o 0)), (1, .int (nI j))]) hx hb dX6_doOne_8 rfl hl (by decide) rfl (fun ls hl => ?_)
  refine lv_aload_n hx hb dX6_doOne_9 rfl (lv_at hl 1 rfl) ?_
  refine x_get (v := .ref (o 6)) X 0 8 in_X6 hP rfl rfl (by decide) wF_X6_26 rfl rfl dX6_doOne_10 ?_
  refine lv_iload_n hx hb dX6_doOne_13 rfl (lv_at hl 2 rfl) ?_
  refine lv_iconst (v := 2) hx hb dX6_doOne_14 (by decide) ?_
  refine lv_iadd hx hb dX6_doOne_15 ?_
  refine x_iald (v := ((mO r) (j + 2))) X 6 (j + 2) hP rfl (nI_add j 2) (by omega) (Nat.le_of_ble_eq_true rfl) rfl dX6_doOne_16 ?_
  refine lv_istore_n (lv' := [(3, .int ((mO r) (j + 2))), (2, .int 1), (0, .ref (o 0)), (1, .int (nI j))]) hx hb dX6_doOne_17 rfl hl (by decide) rfl (fun ls hl => ?_)
  refine lv_iconst (v := 0) hx hb dX6_doOne_18 (by decide) ?_
  refine lv_istore (lv' := [(4, .int 0), (3, .int ((mO r) (j + 2))), (2, .int 1), (0, .ref (o 0)), (1, .int (nI j))]) hx hb dX6_doOne_19 hl (by decide) rfl (fun ls hl => ?_)
  refine lv_aload_n hx hb dX6_doOne_21 rfl (lv_at hl 3 rfl) ?_
  refine x_get (v := .ref (o 6)) X 0 8 in_X6 hP rfl rfl (by decide) wF_X6_26 rfl rfl dX6_doOne_22 ?_
  refine lv_iload_n hx hb dX6_doOne_25 rfl (lv_at hl 4 rfl) ?_
  refine x_iald (v := ((mO r) j)) X 6 j hP rfl rfl (by omega) (Nat.le_of_ble_eq_true rfl) rfl dX6_doOne_26 ?_
  refine W.eq (g2 := F0 m 27 ls [.int 111]) (by rw [ho]) ?_
  refine lv_lookup (off := 95) (tgt := 122) hx hb dX6_doOne_27 (by decide) rfl (by decide) ?_
  refine lv_aload_n hx hb dX6_doOne_122 rfl (lv_at hl 3 rfl) ?_
  refine lv_iload_n hx hb dX6_doOne_123 rfl (lv_at hl 2 rfl) ?_
  refine x_goI (wn := MW g o (mz r (oilM 15 (mZ r)))) (x_rV (As := [.int 1]) X (c_X6_oils_1 l g o r   _) yf_X6_oils yi_X6_oils wM_X6_60 ⟨Nat.le_of_ble_eq_true rfl, Nat.le_of_ble_eq_true rfl⟩ hP hD (p_all _) 0 rfl rfl hl rfl rfl (Nat.le_of_ble_eq_true rfl) dX6_doOne_124 ⟨Nat.zero_le _, Nat.zero_le _⟩) hP hD hS hA (p_all _) (p_back _) (fun H locs hP hD hS => ?_)
  refine lv_pop hx hb dX6_doOne_127 rfl ?_
  refine lv_goto (tgt := 137) hx hb dX6_doOne_128 (by decide) ?_
  refine lv_iload hx hb dX6_doOne_137 (lv_at hl 0 rfl) ?_
  have E : (MW g o (mz r (oilM 15 (mZ r))) : va_W) = MW g o (mz r (oilM 15 (mZ r))) := rfl
  exact x_iret X hr hlocks (pw E hP) (dw E hD) hS rfl dX6_doOne_139

set_option maxHeartbeats 4000000 in
set_option maxRecDepth 100000 in
theorem c_X6_doOne_o2 (l : Launch) (g : wG) (o : Nat → Nat) (r : MS) (j : Nat) (hj : j ≤ 60) (ho : mO r j = 111) (hk : mO r (j + 1) = 2) : CtI l g 6 yX6_doOne cX6_doOne 5 (some .int) [.ref (o 0), .int (nI j)] (MW g o r) 0 (MW g o (mz r (oilM 22 (mZ r)))) := by
  intro sz
  refine x_enter (Qc := fun A => QI g A 0 (MW g o (mz r (oilM 22 (mZ r))))) (by decide) (Nat.le_of_ble_eq_true rfl) ?_
  intro p e s m args below meth c X hr hlocks A hA hP hD hS ls hl
  obtain ⟨⟨hx, hb, hml, hown, hts⟩, hK, hN⟩ := id X
  have hl : lv_has ls 5 [(0, .ref (o 0)), (1, .int (nI j))] := hl
  refine lv_aload_n hx hb dX6_doOne_0 rfl (lv_at hl 0 rfl) ?_
  refine x_get (v := .ref (o 6)) X 0 8 in_X6 hP rfl rfl (by decide) wF_X6_26 rfl rfl dX6_doOne_1 ?_
  refine lv_iload_n hx hb dX6_doOne_4 rfl (lv_at hl 1 rfl) ?_
  refine lv_iconst (v := 1) hx hb dX6_doOne_5 (by decide) ?_
  refine lv_iadd hx hb dX6_doOne_6 ?_
  refine x_iald (v := ((mO r) (j + 1))) X 6 (j + 1) hP rfl (nI_1 j) (by omega) (Nat.le_of_ble_eq_true rfl) rfl dX6_doOne_7 ?_
  refine W.eq (g2 := F0 m 8 ls [.int 2]) (by rw [hk]) ?_
  refine lv_istore_n (lv' := [(2, .int 2), (0, .ref (o 0)), (1, .int (nI j))]) hx hb dX6_doOne_8 rfl hl (by decide) rfl (fun ls hl => ?_)
  refine lv_aload_n hx hb dX6_doOne_9 rfl (lv_at hl 1 rfl) ?_
  refine x_get (v := .ref (o 6)) X 0 8 in_X6 hP rfl rfl (by decide) wF_X6_26 rfl rfl dX6_doOne_10 ?_
  refine lv_iload_n hx hb dX6_doOne_13 rfl (lv_at hl 2 rfl) ?_
  refine lv_iconst (v := 2) hx hb dX6_doOne_14 (by decide) ?_
  refine lv_iadd hx hb dX6_doOne_15 ?_
  refine x_iald (v := ((mO r) (j + 2))) X 6 (j + 2) hP rfl (nI_add j 2) (by omega) (Nat.le_of_ble_eq_true rfl) rfl dX6_doOne_16 ?_
  refine lv_istore_n (lv' := [(3, .int ((mO r) (j + 2))), (2, .int 2), (0, .ref (o 0)), (1, .int (nI j))]) hx hb dX6_doOne_17 rfl hl (by decide) rfl (fun ls hl => ?_)
  refine lv_iconst (v := 0) hx hb dX6_doOne_18 (by decide) ?_
  refine lv_istore (lv' := [(4, .int 0), (3, .int ((mO r) (j + 2))), (2, .int 2), (0, .ref (o 0)), (1, .int (nI j))]) hx hb dX6_doOne_19 hl (by decide) rfl (fun ls hl => ?_)
  refine lv_aload_n hx hb dX6_doOne_21 rfl (lv_at hl 3 rfl) ?_
  refine x_get (v := .ref (o 6)) X 0 8 in_X6 hP rfl rfl (by decide) wF_X6_26 rfl rfl dX6_doOne_22 ?_
  refine lv_iload_n hx hb dX6_doOne_25 rfl (lv_at hl 4 rfl) ?_
  refine x_iald (v := ((mO r) j)) X 6 j hP rfl rfl (by omega) (Nat.le_of_ble_eq_true rfl) rfl dX6_doOne_26 ?_
  refine W.eq (g2 := F0 m 27 ls [.int 111]) (by rw [ho]) ?_
  refine lv_lookup (off := 95) (tgt := 122) hx hb dX6_doOne_27 (by decide) rfl (by decide) ?_
  refine lv_aload_n hx hb dX6_doOne_122 rfl (lv_at hl 3 rfl) ?_
  refine lv_iload_n hx hb dX6_doOne_123 rfl (lv_at hl 2 rfl) ?_
  refine x_goI (wn := MW g o (mz r (oilM 22 (mZ r)))) (x_rV (As := [.int 2]) X (c_X6_oils_2 l g o r   _) yf_X6_oils yi_X6_oils wM_X6_60 ⟨Nat.le_of_ble_eq_true rfl, Nat.le_of_ble_eq_true rfl⟩ hP hD (p_all _) 0 rfl rfl hl rfl rfl (Nat.le_of_ble_eq_true rfl) dX6_doOne_124 ⟨Nat.zero_le _, Nat.zero_le _⟩) hP hD hS hA (p_all _) (p_back _) (fun H locs hP hD hS => ?_)
  refine lv_pop hx hb dX6_doOne_127 rfl ?_
  refine lv_goto (tgt := 137) hx hb dX6_doOne_128 (by decide) ?_
  refine lv_iload hx hb dX6_doOne_137 (lv_at hl 0 rfl) ?_
  have E : (MW g o (mz r (oilM 22 (mZ r))) : va_W) = MW g o (mz r (oilM 22 (mZ r))) := rfl
  exact x_iret X hr hlocks (pw E hP) (dw E hD) hS rfl dX6_doOne_139

set_option maxHeartbeats 4000000 in
set_option maxRecDepth 100000 in
theorem c_X6_doOne_o3 (l : Launch) (g : wG) (o : Nat → Nat) (r : MS) (j : Nat) (hj : j ≤ 60) (ho : mO r j = 111) (hk : mO r (j + 1) = 3) : CtI l g 6 yX6_doOne cX6_doOne 5 (some .int) [.ref (o 0), .int (nI j)] (MW g o r) 0 (MW g o (mz r (oilM 29 (mZ r)))) := by
  intro sz
  refine x_enter (Qc := fun A => QI g A 0 (MW g o (mz r (oilM 29 (mZ r))))) (by decide) (Nat.le_of_ble_eq_true rfl) ?_
  intro p e s m args below meth c X hr hlocks A hA hP hD hS ls hl
  obtain ⟨⟨hx, hb, hml, hown, hts⟩, hK, hN⟩ := id X
  have hl : lv_has ls 5 [(0, .ref (o 0)), (1, .int (nI j))] := hl
  refine lv_aload_n hx hb dX6_doOne_0 rfl (lv_at hl 0 rfl) ?_
  refine x_get (v := .ref (o 6)) X 0 8 in_X6 hP rfl rfl (by decide) wF_X6_26 rfl rfl dX6_doOne_1 ?_
  refine lv_iload_n hx hb dX6_doOne_4 rfl (lv_at hl 1 rfl) ?_
  refine lv_iconst (v := 1) hx hb dX6_doOne_5 (by decide) ?_
  refine lv_iadd hx hb dX6_doOne_6 ?_
  refine x_iald (v := ((mO r) (j + 1))) X 6 (j + 1) hP rfl (nI_1 j) (by omega) (Nat.le_of_ble_eq_true rfl) rfl dX6_doOne_7 ?_
  refine W.eq (g2 := F0 m 8 ls [.int 3]) (by rw [hk]) ?_
  refine lv_istore_n (lv' := [(2, .int 3), (0, .ref (o 0)), (1, .int (nI j))]) hx hb dX6_doOne_8 rfl hl (by decide) rfl (fun ls hl => ?_)
  refine lv_aload_n hx hb dX6_doOne_9 rfl (lv_at hl 1 rfl) ?_
  refine x_get (v := .ref (o 6)) X 0 8 in_X6 hP rfl rfl (by decide) wF_X6_26 rfl rfl dX6_doOne_10 ?_
  refine lv_iload_n hx hb dX6_doOne_13 rfl (lv_at hl 2 rfl) ?_
  refine lv_iconst (v := 2) hx hb dX6_doOne_14 (by decide) ?_
  refine lv_iadd hx hb dX6_doOne_15 ?_
  refine x_iald (v := ((mO r) (j + 2))) X 6 (j + 2) hP rfl (nI_add j 2) (by omega) (Nat.le_of_ble_eq_true rfl) rfl dX6_doOne_16 ?_
  refine lv_istore_n (lv' := [(3, .int ((mO r) (j + 2))), (2, .int 3), (0, .ref (o 0)), (1, .int (nI j))]) hx hb dX6_doOne_17 rfl hl (by decide) rfl (fun ls hl => ?_)
  refine lv_iconst (v := 0) hx hb dX6_doOne_18 (by decide) ?_
  refine lv_istore (lv' := [(4, .int 0), (3, .int ((mO r) (j + 2))), (2, .int 3), (0, .ref (o 0)), (1, .int (nI j))]) hx hb dX6_doOne_19 hl (by decide) rfl (fun ls hl => ?_)
  refine lv_aload_n hx hb dX6_doOne_21 rfl (lv_at hl 3 rfl) ?_
  refine x_get (v := .ref (o 6)) X 0 8 in_X6 hP rfl rfl (by decide) wF_X6_26 rfl rfl dX6_doOne_22 ?_
  refine lv_iload_n hx hb dX6_doOne_25 rfl (lv_at hl 4 rfl) ?_
  refine x_iald (v := ((mO r) j)) X 6 j hP rfl rfl (by omega) (Nat.le_of_ble_eq_true rfl) rfl dX6_doOne_26 ?_
  refine W.eq (g2 := F0 m 27 ls [.int 111]) (by rw [ho]) ?_
  refine lv_lookup (off := 95) (tgt := 122) hx hb dX6_doOne_27 (by decide) rfl (by decide) ?_
  refine lv_aload_n hx hb dX6_doOne_122 rfl (lv_at hl 3 rfl) ?_
  refine lv_iload_n hx hb dX6_doOne_123 rfl (lv_at hl 2 rfl) ?_
  refine x_goI (wn := MW g o (mz r (oilM 29 (mZ r)))) (x_rV (As := [.int 3]) X (c_X6_oils_3 l g o r   _) yf_X6_oils yi_X6_oils wM_X6_60 ⟨Nat.le_of_ble_eq_true rfl, Nat.le_of_ble_eq_true rfl⟩ hP hD (p_all _) 0 rfl rfl hl rfl rfl (Nat.le_of_ble_eq_true rfl) dX6_doOne_124 ⟨Nat.zero_le _, Nat.zero_le _⟩) hP hD hS hA (p_all _) (p_back _) (fun H locs hP hD hS => ?_)
  refine lv_pop hx hb dX6_doOne_127 rfl ?_
  refine lv_goto (tgt := 137) hx hb dX6_doOne_128 (by decide) ?_
  refine lv_iload hx hb dX6_doOne_137 (lv_at hl 0 rfl) ?_
  have E : (MW g o (mz r (oilM 29 (mZ r))) : va_W) = MW g o (mz r (oilM 29 (mZ r))) := rfl
  exact x_iret X hr hlocks (pw E hP) (dw E hD) hS rfl dX6_doOne_139

set_option maxHeartbeats 4000000 in
set_option maxRecDepth 100000 in
theorem c_X6_doOne_b0 (l : Launch) (g : wG) (o : Nat → Nat) (r : MS) (j : Nat) (hj : j ≤ 60) (ho : mO r j = 98) (hk : mO r (j + 1) = 0) : CtI l g 6 yX6_doOne cX6_doOne 5 (some .int) [.ref (o 0), .int (nI j)] (MW g o r) 0 (MW g o (mz r (hanM 8 (mZ r)))) := by
  intro sz
  refine x_enter (Qc := fun A => QI g A 0 (MW g o (mz r (hanM 8 (mZ r))))) (by decide) (Nat.le_of_ble_eq_true rfl) ?_
  intro p e s m args below meth c X hr hlocks A hA hP hD hS ls hl
  obtain ⟨⟨hx, hb, hml, hown, hts⟩, hK, hN⟩ := id X
  have hl : lv_has ls 5 [(0, .ref (o 0)), (1, .int (nI j))] := hl
  refine lv_aload_n hx hb dX6_doOne_0 rfl (lv_at hl 0 rfl) ?_
  refine x_get (v := .ref (o 6)) X 0 8 in_X6 hP rfl rfl (by decide) wF_X6_26 rfl rfl dX6_doOne_1 ?_
  refine lv_iload_n hx hb dX6_doOne_4 rfl (lv_at hl 1 rfl) ?_
  refine lv_iconst (v := 1) hx hb dX6_doOne_5 (by decide) ?_
  refine lv_iadd hx hb dX6_doOne_6 ?_
  refine x_iald (v := ((mO r) (j + 1))) X 6 (j + 1) hP rfl (nI_1 j) (by omega) (Nat.le_of_ble_eq_true rfl) rfl dX6_doOne_7 ?_
  refine W.eq (g2 := F0 m 8 ls [.int 0]) (by rw [hk]) ?_
  refine lv_istore_n (lv' := [(2, .int 0), (0, .ref (o 0)), (1, .int (nI j))]) hx hb dX6_doOne_8 rfl hl (by decide) rfl (fun ls hl => ?_)
  refine lv_aload_n hx hb dX6_doOne_9 rfl (lv_at hl 1 rfl) ?_
  refine x_get (v := .ref (o 6)) X 0 8 in_X6 hP rfl rfl (by decide) wF_X6_26 rfl rfl dX6_doOne_10 ?_
  refine lv_iload_n hx hb dX6_doOne_13 rfl (lv_at hl 2 rfl) ?_
  refine lv_iconst (v := 2) hx hb dX6_doOne_14 (by decide) ?_
  refine lv_iadd hx hb dX6_doOne_15 ?_
  refine x_iald (v := ((mO r) (j + 2))) X 6 (j + 2) hP rfl (nI_add j 2) (by omega) (Nat.le_of_ble_eq_true rfl) rfl dX6_doOne_16 ?_
  refine lv_istore_n (lv' := [(3, .int ((mO r) (j + 2))), (2, .int 0), (0, .ref (o 0)), (1, .int (nI j))]) hx hb dX6_doOne_17 rfl hl (by decide) rfl (fun ls hl => ?_)
  refine lv_iconst (v := 0) hx hb dX6_doOne_18 (by decide) ?_
  refine lv_istore (lv' := [(4, .int 0), (3, .int ((mO r) (j + 2))), (2, .int 0), (0, .ref (o 0)), (1, .int (nI j))]) hx hb dX6_doOne_19 hl (by decide) rfl (fun ls hl => ?_)
  refine lv_aload_n hx hb dX6_doOne_21 rfl (lv_at hl 3 rfl) ?_
  refine x_get (v := .ref (o 6)) X 0 8 in_X6 hP rfl rfl (by decide) wF_X6_26 rfl rfl dX6_doOne_22 ?_
  refine lv_iload_n hx hb dX6_doOne_25 rfl (lv_at hl 4 rfl) ?_
  refine x_iald (v := ((mO r) j)) X 6 j hP rfl rfl (by omega) (Nat.le_of_ble_eq_true rfl) rfl dX6_doOne_26 ?_
  refine W.eq (g2 := F0 m 27 ls [.int 98]) (by rw [ho]) ?_
  refine lv_lookup (off := 104) (tgt := 131) hx hb dX6_doOne_27 (by decide) rfl (by decide) ?_
  refine lv_aload_n hx hb dX6_doOne_131 rfl (lv_at hl 3 rfl) ?_
  refine lv_iload_n hx hb dX6_doOne_132 rfl (lv_at hl 2 rfl) ?_
  refine x_goI (wn := MW g o (mz r (hanM 8 (mZ r)))) (x_rV (As := [.int 0]) X (c_X6_hangs_0 l g o r   _) yf_X6_hangs yi_X6_hangs wM_X6_70 ⟨Nat.le_of_ble_eq_true rfl, Nat.le_of_ble_eq_true rfl⟩ hP hD (p_all _) 0 rfl rfl hl rfl rfl (Nat.le_of_ble_eq_true rfl) dX6_doOne_133 ⟨Nat.zero_le _, Nat.zero_le _⟩) hP hD hS hA (p_all _) (p_back _) (fun H locs hP hD hS => ?_)
  refine lv_pop hx hb dX6_doOne_136 rfl ?_
  refine lv_iload hx hb dX6_doOne_137 (lv_at hl 0 rfl) ?_
  have E : (MW g o (mz r (hanM 8 (mZ r))) : va_W) = MW g o (mz r (hanM 8 (mZ r))) := rfl
  exact x_iret X hr hlocks (pw E hP) (dw E hD) hS rfl dX6_doOne_139

set_option maxHeartbeats 4000000 in
set_option maxRecDepth 100000 in
theorem c_X6_doOne_b1 (l : Launch) (g : wG) (o : Nat → Nat) (r : MS) (j : Nat) (hj : j ≤ 60) (ho : mO r j = 98) (hk : mO r (j + 1) = 1) : CtI l g 6 yX6_doOne cX6_doOne 5 (some .int) [.ref (o 0), .int (nI j)] (MW g o r) 0 (MW g o (mz r (hanM 15 (mZ r)))) := by
  intro sz
  refine x_enter (Qc := fun A => QI g A 0 (MW g o (mz r (hanM 15 (mZ r))))) (by decide) (Nat.le_of_ble_eq_true rfl) ?_
  intro p e s m args below meth c X hr hlocks A hA hP hD hS ls hl
  obtain ⟨⟨hx, hb, hml, hown, hts⟩, hK, hN⟩ := id X
  have hl : lv_has ls 5 [(0, .ref (o 0)), (1, .int (nI j))] := hl
  refine lv_aload_n hx hb dX6_doOne_0 rfl (lv_at hl 0 rfl) ?_
  refine x_get (v := .ref (o 6)) X 0 8 in_X6 hP rfl rfl (by decide) wF_X6_26 rfl rfl dX6_doOne_1 ?_
  refine lv_iload_n hx hb dX6_doOne_4 rfl (lv_at hl 1 rfl) ?_
  refine lv_iconst (v := 1) hx hb dX6_doOne_5 (by decide) ?_
  refine lv_iadd hx hb dX6_doOne_6 ?_
  refine x_iald (v := ((mO r) (j + 1))) X 6 (j + 1) hP rfl (nI_1 j) (by omega) (Nat.le_of_ble_eq_true rfl) rfl dX6_doOne_7 ?_
  refine W.eq (g2 := F0 m 8 ls [.int 1]) (by rw [hk]) ?_
  refine lv_istore_n (lv' := [(2, .int 1), (0, .ref (o 0)), (1, .int (nI j))]) hx hb dX6_doOne_8 rfl hl (by decide) rfl (fun ls hl => ?_)
  refine lv_aload_n hx hb dX6_doOne_9 rfl (lv_at hl 1 rfl) ?_
  refine x_get (v := .ref (o 6)) X 0 8 in_X6 hP rfl rfl (by decide) wF_X6_26 rfl rfl dX6_doOne_10 ?_
  refine lv_iload_n hx hb dX6_doOne_13 rfl (lv_at hl 2 rfl) ?_
  refine lv_iconst (v := 2) hx hb dX6_doOne_14 (by decide) ?_
  refine lv_iadd hx hb dX6_doOne_15 ?_
  refine x_iald (v := ((mO r) (j + 2))) X 6 (j + 2) hP rfl (nI_add j 2) (by omega) (Nat.le_of_ble_eq_true rfl) rfl dX6_doOne_16 ?_
  refine lv_istore_n (lv' := [(3, .int ((mO r) (j + 2))), (2, .int 1), (0, .ref (o 0)), (1, .int (nI j))]) hx hb dX6_doOne_17 rfl hl (by decide) rfl (fun ls hl => ?_)
  refine lv_iconst (v := 0) hx hb dX6_doOne_18 (by decide) ?_
  refine lv_istore (lv' := [(4, .int 0), (3, .int ((mO r) (j + 2))), (2, .int 1), (0, .ref (o 0)), (1, .int (nI j))]) hx hb dX6_doOne_19 hl (by decide) rfl (fun ls hl => ?_)
  refine lv_aload_n hx hb dX6_doOne_21 rfl (lv_at hl 3 rfl) ?_
  refine x_get (v := .ref (o 6)) X 0 8 in_X6 hP rfl rfl (by decide) wF_X6_26 rfl rfl dX6_doOne_22 ?_
  refine lv_iload_n hx hb dX6_doOne_25 rfl (lv_at hl 4 rfl) ?_
  refine x_iald (v := ((mO r) j)) X 6 j hP rfl rfl (by omega) (Nat.le_of_ble_eq_true rfl) rfl dX6_doOne_26 ?_
  refine W.eq (g2 := F0 m 27 ls [.int 98]) (by rw [ho]) ?_
  refine lv_lookup (off := 104) (tgt := 131) hx hb dX6_doOne_27 (by decide) rfl (by decide) ?_
  refine lv_aload_n hx hb dX6_doOne_131 rfl (lv_at hl 3 rfl) ?_
  refine lv_iload_n hx hb dX6_doOne_132 rfl (lv_at hl 2 rfl) ?_
  refine x_goI (wn := MW g o (mz r (hanM 15 (mZ r)))) (x_rV (As := [.int 1]) X (c_X6_hangs_1 l g o r   _) yf_X6_hangs yi_X6_hangs wM_X6_70 ⟨Nat.le_of_ble_eq_true rfl, Nat.le_of_ble_eq_true rfl⟩ hP hD (p_all _) 0 rfl rfl hl rfl rfl (Nat.le_of_ble_eq_true rfl) dX6_doOne_133 ⟨Nat.zero_le _, Nat.zero_le _⟩) hP hD hS hA (p_all _) (p_back _) (fun H locs hP hD hS => ?_)
  refine lv_pop hx hb dX6_doOne_136 rfl ?_
  refine lv_iload hx hb dX6_doOne_137 (lv_at hl 0 rfl) ?_
  have E : (MW g o (mz r (hanM 15 (mZ r))) : va_W) = MW g o (mz r (hanM 15 (mZ r))) := rfl
  exact x_iret X hr hlocks (pw E hP) (dw E hD) hS rfl dX6_doOne_139

set_option maxHeartbeats 4000000 in
set_option maxRecDepth 100000 in
theorem c_X6_doOne_b2 (l : Launch) (g : wG) (o : Nat → Nat) (r : MS) (j : Nat) (hj : j ≤ 60) (ho : mO r j = 98) (hk : mO r (j + 1) = 2) : CtI l g 6 yX6_doOne cX6_doOne 5 (some .int) [.ref (o 0), .int (nI j)] (MW g o r) 0 (MW g o (mz r (hanM 22 (mZ r)))) := by
  intro sz
  refine x_enter (Qc := fun A => QI g A 0 (MW g o (mz r (hanM 22 (mZ r))))) (by decide) (Nat.le_of_ble_eq_true rfl) ?_
  intro p e s m args below meth c X hr hlocks A hA hP hD hS ls hl
  obtain ⟨⟨hx, hb, hml, hown, hts⟩, hK, hN⟩ := id X
  have hl : lv_has ls 5 [(0, .ref (o 0)), (1, .int (nI j))] := hl
  refine lv_aload_n hx hb dX6_doOne_0 rfl (lv_at hl 0 rfl) ?_
  refine x_get (v := .ref (o 6)) X 0 8 in_X6 hP rfl rfl (by decide) wF_X6_26 rfl rfl dX6_doOne_1 ?_
  refine lv_iload_n hx hb dX6_doOne_4 rfl (lv_at hl 1 rfl) ?_
  refine lv_iconst (v := 1) hx hb dX6_doOne_5 (by decide) ?_
  refine lv_iadd hx hb dX6_doOne_6 ?_
  refine x_iald (v := ((mO r) (j + 1))) X 6 (j + 1) hP rfl (nI_1 j) (by omega) (Nat.le_of_ble_eq_true rfl) rfl dX6_doOne_7 ?_
  refine W.eq (g2 := F0 m 8 ls [.int 2]) (by rw [hk]) ?_
  refine lv_istore_n (lv' := [(2, .int 2), (0, .ref (o 0)), (1, .int (nI j))]) hx hb dX6_doOne_8 rfl hl (by decide) rfl (fun ls hl => ?_)
  refine lv_aload_n hx hb dX6_doOne_9 rfl (lv_at hl 1 rfl) ?_
  refine x_get (v := .ref (o 6)) X 0 8 in_X6 hP rfl rfl (by decide) wF_X6_26 rfl rfl dX6_doOne_10 ?_
  refine lv_iload_n hx hb dX6_doOne_13 rfl (lv_at hl 2 rfl) ?_
  refine lv_iconst (v := 2) hx hb dX6_doOne_14 (by decide) ?_
  refine lv_iadd hx hb dX6_doOne_15 ?_
  refine x_iald (v := ((mO r) (j + 2))) X 6 (j + 2) hP rfl (nI_add j 2) (by omega) (Nat.le_of_ble_eq_true rfl) rfl dX6_doOne_16 ?_
  refine lv_istore_n (lv' := [(3, .int ((mO r) (j + 2))), (2, .int 2), (0, .ref (o 0)), (1, .int (nI j))]) hx hb dX6_doOne_17 rfl hl (by decide) rfl (fun ls hl => ?_)
  refine lv_iconst (v := 0) hx hb dX6_doOne_18 (by decide) ?_
  refine lv_istore (lv' := [(4, .int 0), (3, .int ((mO r) (j + 2))), (2, .int 2), (0, .ref (o 0)), (1, .int (nI j))]) hx hb dX6_doOne_19 hl (by decide) rfl (fun ls hl => ?_)
  refine lv_aload_n hx hb dX6_doOne_21 rfl (lv_at hl 3 rfl) ?_
  refine x_get (v := .ref (o 6)) X 0 8 in_X6 hP rfl rfl (by decide) wF_X6_26 rfl rfl dX6_doOne_22 ?_
  refine lv_iload_n hx hb dX6_doOne_25 rfl (lv_at hl 4 rfl) ?_
  refine x_iald (v := ((mO r) j)) X 6 j hP rfl rfl (by omega) (Nat.le_of_ble_eq_true rfl) rfl dX6_doOne_26 ?_
  refine W.eq (g2 := F0 m 27 ls [.int 98]) (by rw [ho]) ?_
  refine lv_lookup (off := 104) (tgt := 131) hx hb dX6_doOne_27 (by decide) rfl (by decide) ?_
  refine lv_aload_n hx hb dX6_doOne_131 rfl (lv_at hl 3 rfl) ?_
  refine lv_iload_n hx hb dX6_doOne_132 rfl (lv_at hl 2 rfl) ?_
  refine x_goI (wn := MW g o (mz r (hanM 22 (mZ r)))) (x_rV (As := [.int 2]) X (c_X6_hangs_2 l g o r   _) yf_X6_hangs yi_X6_hangs wM_X6_70 ⟨Nat.le_of_ble_eq_true rfl, Nat.le_of_ble_eq_true rfl⟩ hP hD (p_all _) 0 rfl rfl hl rfl rfl (Nat.le_of_ble_eq_true rfl) dX6_doOne_133 ⟨Nat.zero_le _, Nat.zero_le _⟩) hP hD hS hA (p_all _) (p_back _) (fun H locs hP hD hS => ?_)
  refine lv_pop hx hb dX6_doOne_136 rfl ?_
  refine lv_iload hx hb dX6_doOne_137 (lv_at hl 0 rfl) ?_
  have E : (MW g o (mz r (hanM 22 (mZ r))) : va_W) = MW g o (mz r (hanM 22 (mZ r))) := rfl
  exact x_iret X hr hlocks (pw E hP) (dw E hD) hS rfl dX6_doOne_139

set_option maxHeartbeats 4000000 in
set_option maxRecDepth 100000 in
theorem c_X6_doOne_b3 (l : Launch) (g : wG) (o : Nat → Nat) (r : MS) (j : Nat) (hj : j ≤ 60) (ho : mO r j = 98) (hk : mO r (j + 1) = 3) : CtI l g 6 yX6_doOne cX6_doOne 5 (some .int) [.ref (o 0), .int (nI j)] (MW g o r) 0 (MW g o (mz r (hanM 29 (mZ r)))) := by
  intro sz
  refine x_enter (Qc := fun A => QI g A 0 (MW g o (mz r (hanM 29 (mZ r))))) (by decide) (Nat.le_of_ble_eq_true rfl) ?_
  intro p e s m args below meth c X hr hlocks A hA hP hD hS ls hl
  obtain ⟨⟨hx, hb, hml, hown, hts⟩, hK, hN⟩ := id X
  have hl : lv_has ls 5 [(0, .ref (o 0)), (1, .int (nI j))] := hl
  refine lv_aload_n hx hb dX6_doOne_0 rfl (lv_at hl 0 rfl) ?_
  refine x_get (v := .ref (o 6)) X 0 8 in_X6 hP rfl rfl (by decide) wF_X6_26 rfl rfl dX6_doOne_1 ?_
  refine lv_iload_n hx hb dX6_doOne_4 rfl (lv_at hl 1 rfl) ?_
  refine lv_iconst (v := 1) hx hb dX6_doOne_5 (by decide) ?_
  refine lv_iadd hx hb dX6_doOne_6 ?_
  refine x_iald (v := ((mO r) (j + 1))) X 6 (j + 1) hP rfl (nI_1 j) (by omega) (Nat.le_of_ble_eq_true rfl) rfl dX6_doOne_7 ?_
  refine W.eq (g2 := F0 m 8 ls [.int 3]) (by rw [hk]) ?_
  refine lv_istore_n (lv' := [(2, .int 3), (0, .ref (o 0)), (1, .int (nI j))]) hx hb dX6_doOne_8 rfl hl (by decide) rfl (fun ls hl => ?_)
  refine lv_aload_n hx hb dX6_doOne_9 rfl (lv_at hl 1 rfl) ?_
  refine x_get (v := .ref (o 6)) X 0 8 in_X6 hP rfl rfl (by decide) wF_X6_26 rfl rfl dX6_doOne_10 ?_
  refine lv_iload_n hx hb dX6_doOne_13 rfl (lv_at hl 2 rfl) ?_
  refine lv_iconst (v := 2) hx hb dX6_doOne_14 (by decide) ?_
  refine lv_iadd hx hb dX6_doOne_15 ?_
  refine x_iald (v := ((mO r) (j + 2))) X 6 (j + 2) hP rfl (nI_add j 2) (by omega) (Nat.le_of_ble_eq_true rfl) rfl dX6_doOne_16 ?_
  refine lv_istore_n (lv' := [(3, .int ((mO r) (j + 2))), (2, .int 3), (0, .ref (o 0)), (1, .int (nI j))]) hx hb dX6_doOne_17 rfl hl (by decide) rfl (fun ls hl => ?_)
  refine lv_iconst (v := 0) hx hb dX6_doOne_18 (by decide) ?_
  refine lv_istore (lv' := [(4, .int 0), (3, .int ((mO r) (j + 2))), (2, .int 3), (0, .ref (o 0)), (1, .int (nI j))]) hx hb dX6_doOne_19 hl (by decide) rfl (fun ls hl => ?_)
  refine lv_aload_n hx hb dX6_doOne_21 rfl (lv_at hl 3 rfl) ?_
  refine x_get (v := .ref (o 6)) X 0 8 in_X6 hP rfl rfl (by decide) wF_X6_26 rfl rfl dX6_doOne_22 ?_
  refine lv_iload_n hx hb dX6_doOne_25 rfl (lv_at hl 4 rfl) ?_
  refine x_iald (v := ((mO r) j)) X 6 j hP rfl rfl (by omega) (Nat.le_of_ble_eq_true rfl) rfl dX6_doOne_26 ?_
  refine W.eq (g2 := F0 m 27 ls [.int 98]) (by rw [ho]) ?_
  refine lv_lookup (off := 104) (tgt := 131) hx hb dX6_doOne_27 (by decide) rfl (by decide) ?_
  refine lv_aload_n hx hb dX6_doOne_131 rfl (lv_at hl 3 rfl) ?_
  refine lv_iload_n hx hb dX6_doOne_132 rfl (lv_at hl 2 rfl) ?_
  refine x_goI (wn := MW g o (mz r (hanM 29 (mZ r)))) (x_rV (As := [.int 3]) X (c_X6_hangs_3 l g o r   _) yf_X6_hangs yi_X6_hangs wM_X6_70 ⟨Nat.le_of_ble_eq_true rfl, Nat.le_of_ble_eq_true rfl⟩ hP hD (p_all _) 0 rfl rfl hl rfl rfl (Nat.le_of_ble_eq_true rfl) dX6_doOne_133 ⟨Nat.zero_le _, Nat.zero_le _⟩) hP hD hS hA (p_all _) (p_back _) (fun H locs hP hD hS => ?_)
  refine lv_pop hx hb dX6_doOne_136 rfl ?_
  refine lv_iload hx hb dX6_doOne_137 (lv_at hl 0 rfl) ?_
  have E : (MW g o (mz r (hanM 29 (mZ r))) : va_W) = MW g o (mz r (hanM 29 (mZ r))) := rfl
  exact x_iret X hr hlocks (pw E hP) (dw E hD) hS rfl dX6_doOne_139

set_option maxHeartbeats 4000000 in
set_option maxRecDepth 100000 in
theorem c_X6_doOne_ke (l : Launch) (g : wG) (o : Nat → Nat) (r : MS) (cn : Nat) (hc : cn ≤ 6) (hz : mZ r 7 = nI cn) (j : Nat) (hj : j ≤ 60) (ho : mO r j = 107) (he : ¬ wnh (mZ r) cn (mO r (j + 1)) (mO r (j + 2)) = 0) : CtI l g 6 yX6_doOne cX6_doOne 5 (some .int) [.ref (o 0), .int (nI j)] (MW g o r) (wnh (mZ r) cn (mO r (j + 1)) (mO r (j + 2))) (MW g o r) := by
  intro sz
  refine x_enter (Qc := fun A => QI g A (wnh (mZ r) cn (mO r (j + 1)) (mO r (j + 2))) (MW g o r)) (by decide) (Nat.le_of_ble_eq_true rfl) ?_
  intro p e s m args below meth c X hr hlocks A hA hP hD hS ls hl
  obtain ⟨⟨hx, hb, hml, hown, hts⟩, hK, hN⟩ := id X
  have hl : lv_has ls 5 [(0, .ref (o 0)), (1, .int (nI j))] := hl
  refine lv_aload_n hx hb dX6_doOne_0 rfl (lv_at hl 0 rfl) ?_
  refine x_get (v := .ref (o 6)) X 0 8 in_X6 hP rfl rfl (by decide) wF_X6_26 rfl rfl dX6_doOne_1 ?_
  refine lv_iload_n hx hb dX6_doOne_4 rfl (lv_at hl 1 rfl) ?_
  refine lv_iconst (v := 1) hx hb dX6_doOne_5 (by decide) ?_
  refine lv_iadd hx hb dX6_doOne_6 ?_
  refine x_iald (v := ((mO r) (j + 1))) X 6 (j + 1) hP rfl (nI_1 j) (by omega) (Nat.le_of_ble_eq_true rfl) rfl dX6_doOne_7 ?_
  refine lv_istore_n (lv' := [(2, .int ((mO r) (j + 1))), (0, .ref (o 0)), (1, .int (nI j))]) hx hb dX6_doOne_8 rfl hl (by decide) rfl (fun ls hl => ?_)
  refine lv_aload_n hx hb dX6_doOne_9 rfl (lv_at hl 1 rfl) ?_
  refine x_get (v := .ref (o 6)) X 0 8 in_X6 hP rfl rfl (by decide) wF_X6_26 rfl rfl dX6_doOne_10 ?_
  refine lv_iload_n hx hb dX6_doOne_13 rfl (lv_at hl 2 rfl) ?_
  refine lv_iconst (v := 2) hx hb dX6_doOne_14 (by decide) ?_
  refine lv_iadd hx hb dX6_doOne_15 ?_
  refine x_iald (v := ((mO r) (j + 2))) X 6 (j + 2) hP rfl (nI_add j 2) (by omega) (Nat.le_of_ble_eq_true rfl) rfl dX6_doOne_16 ?_
  refine lv_istore_n (lv' := [(3, .int ((mO r) (j + 2))), (2, .int ((mO r) (j + 1))), (0, .ref (o 0)), (1, .int (nI j))]) hx hb dX6_doOne_17 rfl hl (by decide) rfl (fun ls hl => ?_)
  refine lv_iconst (v := 0) hx hb dX6_doOne_18 (by decide) ?_
  refine lv_istore (lv' := [(4, .int 0), (3, .int ((mO r) (j + 2))), (2, .int ((mO r) (j + 1))), (0, .ref (o 0)), (1, .int (nI j))]) hx hb dX6_doOne_19 hl (by decide) rfl (fun ls hl => ?_)
  refine lv_aload_n hx hb dX6_doOne_21 rfl (lv_at hl 3 rfl) ?_
  refine x_get (v := .ref (o 6)) X 0 8 in_X6 hP rfl rfl (by decide) wF_X6_26 rfl rfl dX6_doOne_22 ?_
  refine lv_iload_n hx hb dX6_doOne_25 rfl (lv_at hl 4 rfl) ?_
  refine x_iald (v := ((mO r) j)) X 6 j hP rfl rfl (by omega) (Nat.le_of_ble_eq_true rfl) rfl dX6_doOne_26 ?_
  refine W.eq (g2 := F0 m 27 ls [.int 107]) (by rw [ho]) ?_
  refine lv_lookup (off := 51) (tgt := 78) hx hb dX6_doOne_27 (by decide) rfl (by decide) ?_
  refine lv_aload_n hx hb dX6_doOne_78 rfl (lv_at hl 3 rfl) ?_
  refine lv_iload_n hx hb dX6_doOne_79 rfl (lv_at hl 2 rfl) ?_
  refine lv_iload_n hx hb dX6_doOne_80 rfl (lv_at hl 1 rfl) ?_
  refine x_goI (wn := MW g o r) (x_rV (As := [.int ((mO r) (j + 1)), .int ((mO r) (j + 2))]) X (c_X6_whyNotHire l g o r cn hc hz ((mO r) (j + 1)) ((mO r) (j + 2))  _) yf_X6_whyNotHire yi_X6_whyNotHire wM_X6_105 ⟨Nat.le_of_ble_eq_true rfl, Nat.le_of_ble_eq_true rfl⟩ hP hD (p_all _) 0 rfl rfl hl rfl rfl (Nat.le_of_ble_eq_true rfl) dX6_doOne_81 ⟨Nat.zero_le _, Nat.zero_le _⟩) hP hD hS hA (p_all _) (p_back _) (fun H locs hP hD hS => ?_)
  refine lv_istore (lv' := [(4, .int (wnh (mZ r) cn ((mO r) (j + 1)) ((mO r) (j + 2)))), (3, .int ((mO r) (j + 2))), (2, .int ((mO r) (j + 1))), (0, .ref (o 0)), (1, .int (nI j))]) hx hb dX6_doOne_84 hl (by decide) rfl (fun ls hl => ?_)
  refine lv_iload hx hb dX6_doOne_86 (lv_at hl 0 rfl) ?_
  refine lv_if_ne (tgt := 137) hx hb dX6_doOne_88 (by decide) (fun c_1 => ?_) (fun q9 => absurd (show (wnh (mZ r) cn ((mO r) (j + 1)) ((mO r) (j + 2))) = 0 from q9) (show ¬ (wnh (mZ r) cn ((mO r) (j + 1)) ((mO r) (j + 2))) = 0 from he))
  refine lv_iload hx hb dX6_doOne_137 (lv_at hl 0 rfl) ?_
  exact x_iret X hr hlocks hP hD hS rfl dX6_doOne_139

set_option maxHeartbeats 4000000 in
set_option maxRecDepth 100000 in
theorem c_X6_doOne_ko (l : Launch) (g : wG) (o : Nat → Nat) (r : MS) (cn : Nat) (hc : cn ≤ 6) (hz : mZ r 7 = nI cn) (j : Nat) (hj : j ≤ 60) (ho : mO r j = 107) (he : wnh (mZ r) cn (mO r (j + 1)) (mO r (j + 2)) = 0) : CtI l g 6 yX6_doOne cX6_doOne 5 (some .int) [.ref (o 0), .int (nI j)] (MW g o r) (wnh (mZ r) cn (mO r (j + 1)) (mO r (j + 2))) (MW g o (mz r (hirM (mZ r) cn (mO r (j + 1)) (mO r (j + 2))))) := by
  intro sz
  refine x_enter (Qc := fun A => QI g A (wnh (mZ r) cn (mO r (j + 1)) (mO r (j + 2))) (MW g o (mz r (hirM (mZ r) cn (mO r (j + 1)) (mO r (j + 2)))))) (by decide) (Nat.le_of_ble_eq_true rfl) ?_
  intro p e s m args below meth c X hr hlocks A hA hP hD hS ls hl
  obtain ⟨⟨hx, hb, hml, hown, hts⟩, hK, hN⟩ := id X
  have hl : lv_has ls 5 [(0, .ref (o 0)), (1, .int (nI j))] := hl
  refine lv_aload_n hx hb dX6_doOne_0 rfl (lv_at hl 0 rfl) ?_
  refine x_get (v := .ref (o 6)) X 0 8 in_X6 hP rfl rfl (by decide) wF_X6_26 rfl rfl dX6_doOne_1 ?_
  refine lv_iload_n hx hb dX6_doOne_4 rfl (lv_at hl 1 rfl) ?_
  refine lv_iconst (v := 1) hx hb dX6_doOne_5 (by decide) ?_
  refine lv_iadd hx hb dX6_doOne_6 ?_
  refine x_iald (v := ((mO r) (j + 1))) X 6 (j + 1) hP rfl (nI_1 j) (by omega) (Nat.le_of_ble_eq_true rfl) rfl dX6_doOne_7 ?_
  refine lv_istore_n (lv' := [(2, .int ((mO r) (j + 1))), (0, .ref (o 0)), (1, .int (nI j))]) hx hb dX6_doOne_8 rfl hl (by decide) rfl (fun ls hl => ?_)
  refine lv_aload_n hx hb dX6_doOne_9 rfl (lv_at hl 1 rfl) ?_
  refine x_get (v := .ref (o 6)) X 0 8 in_X6 hP rfl rfl (by decide) wF_X6_26 rfl rfl dX6_doOne_10 ?_
  refine lv_iload_n hx hb dX6_doOne_13 rfl (lv_at hl 2 rfl) ?_
  refine lv_iconst (v := 2) hx hb dX6_doOne_14 (by decide) ?_
  refine lv_iadd hx hb dX6_doOne_15 ?_
  refine x_iald (v := ((mO r) (j + 2))) X 6 (j + 2) hP rfl (nI_add j 2) (by omega) (Nat.le_of_ble_eq_true rfl) rfl dX6_doOne_16 ?_
  refine lv_istore_n (lv' := [(3, .int ((mO r) (j + 2))), (2, .int ((mO r) (j + 1))), (0, .ref (o 0)), (1, .int (nI j))]) hx hb dX6_doOne_17 rfl hl (by decide) rfl (fun ls hl => ?_)
  refine lv_iconst (v := 0) hx hb dX6_doOne_18 (by decide) ?_
  refine lv_istore (lv' := [(4, .int 0), (3, .int ((mO r) (j + 2))), (2, .int ((mO r) (j + 1))), (0, .ref (o 0)), (1, .int (nI j))]) hx hb dX6_doOne_19 hl (by decide) rfl (fun ls hl => ?_)
  refine lv_aload_n hx hb dX6_doOne_21 rfl (lv_at hl 3 rfl) ?_
  refine x_get (v := .ref (o 6)) X 0 8 in_X6 hP rfl rfl (by decide) wF_X6_26 rfl rfl dX6_doOne_22 ?_
  refine lv_iload_n hx hb dX6_doOne_25 rfl (lv_at hl 4 rfl) ?_
  refine x_iald (v := ((mO r) j)) X 6 j hP rfl rfl (by omega) (Nat.le_of_ble_eq_true rfl) rfl dX6_doOne_26 ?_
  refine W.eq (g2 := F0 m 27 ls [.int 107]) (by rw [ho]) ?_
  refine lv_lookup (off := 51) (tgt := 78) hx hb dX6_doOne_27 (by decide) rfl (by decide) ?_
  refine lv_aload_n hx hb dX6_doOne_78 rfl (lv_at hl 3 rfl) ?_
  refine lv_iload_n hx hb dX6_doOne_79 rfl (lv_at hl 2 rfl) ?_
  refine lv_iload_n hx hb dX6_doOne_80 rfl (lv_at hl 1 rfl) ?_
  refine x_goI (wn := MW g o r) (x_rV (As := [.int ((mO r) (j + 1)), .int ((mO r) (j + 2))]) X (c_X6_whyNotHire l g o r cn hc hz ((mO r) (j + 1)) ((mO r) (j + 2))  _) yf_X6_whyNotHire yi_X6_whyNotHire wM_X6_105 ⟨Nat.le_of_ble_eq_true rfl, Nat.le_of_ble_eq_true rfl⟩ hP hD (p_all _) 0 rfl rfl hl rfl rfl (Nat.le_of_ble_eq_true rfl) dX6_doOne_81 ⟨Nat.zero_le _, Nat.zero_le _⟩) hP hD hS hA (p_all _) (p_back _) (fun H locs hP hD hS => ?_)
  refine lv_istore (lv' := [(4, .int (wnh (mZ r) cn ((mO r) (j + 1)) ((mO r) (j + 2)))), (3, .int ((mO r) (j + 2))), (2, .int ((mO r) (j + 1))), (0, .ref (o 0)), (1, .int (nI j))]) hx hb dX6_doOne_84 hl (by decide) rfl (fun ls hl => ?_)
  refine lv_iload hx hb dX6_doOne_86 (lv_at hl 0 rfl) ?_
  refine lv_if_ne (tgt := 137) hx hb dX6_doOne_88 (by decide) (fun q9 => absurd (show (wnh (mZ r) cn ((mO r) (j + 1)) ((mO r) (j + 2))) = 0 from he) q9) (fun c_1 => ?_)
  refine lv_aload_n hx hb dX6_doOne_91 rfl (lv_at hl 3 rfl) ?_
  refine lv_iload_n hx hb dX6_doOne_92 rfl (lv_at hl 2 rfl) ?_
  refine lv_iload_n hx hb dX6_doOne_93 rfl (lv_at hl 1 rfl) ?_
  refine x_goI (wn := MW g o (mz r (hirM (mZ r) cn ((mO r) (j + 1)) ((mO r) (j + 2))))) (x_rV (As := [.int ((mO r) (j + 1)), .int ((mO r) (j + 2))]) X (c_X6_hires l g o r cn (wnh_lt hc (by rw [he]; decide)) hz ((mO r) (j + 1)) ((mO r) (j + 2))  _) yf_X6_hires yi_X6_hires wM_X6_108 ⟨Nat.le_of_ble_eq_true rfl, Nat.le_of_ble_eq_true rfl⟩ hP hD (p_all _) 0 rfl rfl hl rfl rfl (Nat.le_of_ble_eq_true rfl) dX6_doOne_94 ⟨Nat.zero_le _, Nat.zero_le _⟩) hP hD hS hA (p_all _) (p_back _) (fun H locs hP hD hS => ?_)
  refine lv_pop hx hb dX6_doOne_97 rfl ?_
  refine lv_goto (tgt := 137) hx hb dX6_doOne_98 (by decide) ?_
  refine lv_iload hx hb dX6_doOne_137 (lv_at hl 0 rfl) ?_
  have E : (MW g o (mz r (hirM (mZ r) cn ((mO r) (j + 1)) ((mO r) (j + 2)))) : va_W) = MW g o (mz r (hirM (mZ r) cn (mO r (j + 1)) (mO r (j + 2)))) := rfl
  exact x_iret X hr hlocks (pw E hP) (dw E hD) hS rfl dX6_doOne_139

set_option maxHeartbeats 4000000 in
set_option maxRecDepth 100000 in
theorem c_X6_doOne_we (l : Launch) (g : wG) (o : Nat → Nat) (r : MS) (cn : Nat) (hc : cn ≤ 6) (hz : mZ r 7 = nI cn) (j : Nat) (hj : j ≤ 60) (ho : mO r j = 119) (he : ¬ wnp (mZ r) (mO r (j + 1)) = 0) : CtI l g 6 yX6_doOne cX6_doOne 5 (some .int) [.ref (o 0), .int (nI j)] (MW g o r) (wnp (mZ r) (mO r (j + 1))) (MW g o r) := by
  intro sz
  refine x_enter (Qc := fun A => QI g A (wnp (mZ r) (mO r (j + 1))) (MW g o r)) (by decide) (Nat.le_of_ble_eq_true rfl) ?_
  intro p e s m args below meth c X hr hlocks A hA hP hD hS ls hl
  obtain ⟨⟨hx, hb, hml, hown, hts⟩, hK, hN⟩ := id X
  have hl : lv_has ls 5 [(0, .ref (o 0)), (1, .int (nI j))] := hl
  refine lv_aload_n hx hb dX6_doOne_0 rfl (lv_at hl 0 rfl) ?_
  refine x_get (v := .ref (o 6)) X 0 8 in_X6 hP rfl rfl (by decide) wF_X6_26 rfl rfl dX6_doOne_1 ?_
  refine lv_iload_n hx hb dX6_doOne_4 rfl (lv_at hl 1 rfl) ?_
  refine lv_iconst (v := 1) hx hb dX6_doOne_5 (by decide) ?_
  refine lv_iadd hx hb dX6_doOne_6 ?_
  refine x_iald (v := ((mO r) (j + 1))) X 6 (j + 1) hP rfl (nI_1 j) (by omega) (Nat.le_of_ble_eq_true rfl) rfl dX6_doOne_7 ?_
  refine lv_istore_n (lv' := [(2, .int ((mO r) (j + 1))), (0, .ref (o 0)), (1, .int (nI j))]) hx hb dX6_doOne_8 rfl hl (by decide) rfl (fun ls hl => ?_)
  refine lv_aload_n hx hb dX6_doOne_9 rfl (lv_at hl 1 rfl) ?_
  refine x_get (v := .ref (o 6)) X 0 8 in_X6 hP rfl rfl (by decide) wF_X6_26 rfl rfl dX6_doOne_10 ?_
  refine lv_iload_n hx hb dX6_doOne_13 rfl (lv_at hl 2 rfl) ?_
  refine lv_iconst (v := 2) hx hb dX6_doOne_14 (by decide) ?_
  refine lv_iadd hx hb dX6_doOne_15 ?_
  refine x_iald (v := ((mO r) (j + 2))) X 6 (j + 2) hP rfl (nI_add j 2) (by omega) (Nat.le_of_ble_eq_true rfl) rfl dX6_doOne_16 ?_
  refine lv_istore_n (lv' := [(3, .int ((mO r) (j + 2))), (2, .int ((mO r) (j + 1))), (0, .ref (o 0)), (1, .int (nI j))]) hx hb dX6_doOne_17 rfl hl (by decide) rfl (fun ls hl => ?_)
  refine lv_iconst (v := 0) hx hb dX6_doOne_18 (by decide) ?_
  refine lv_istore (lv' := [(4, .int 0), (3, .int ((mO r) (j + 2))), (2, .int ((mO r) (j + 1))), (0, .ref (o 0)), (1, .int (nI j))]) hx hb dX6_doOne_19 hl (by decide) rfl (fun ls hl => ?_)
  refine lv_aload_n hx hb dX6_doOne_21 rfl (lv_at hl 3 rfl) ?_
  refine x_get (v := .ref (o 6)) X 0 8 in_X6 hP rfl rfl (by decide) wF_X6_26 rfl rfl dX6_doOne_22 ?_
  refine lv_iload_n hx hb dX6_doOne_25 rfl (lv_at hl 4 rfl) ?_
  refine x_iald (v := ((mO r) j)) X 6 j hP rfl rfl (by omega) (Nat.le_of_ble_eq_true rfl) rfl dX6_doOne_26 ?_
  refine W.eq (g2 := F0 m 27 ls [.int 119]) (by rw [ho]) ?_
  refine lv_lookup (off := 74) (tgt := 101) hx hb dX6_doOne_27 (by decide) rfl (by decide) ?_
  refine lv_aload_n hx hb dX6_doOne_101 rfl (lv_at hl 3 rfl) ?_
  refine lv_iload_n hx hb dX6_doOne_102 rfl (lv_at hl 2 rfl) ?_
  refine x_goI (wn := MW g o r) (x_rV (As := [.int ((mO r) (j + 1))]) X (c_X6_whyNotPass l g o r  ((mO r) (j + 1)) _) yf_X6_whyNotPass yi_X6_whyNotPass wM_X6_90 ⟨Nat.le_of_ble_eq_true rfl, Nat.le_of_ble_eq_true rfl⟩ hP hD (p_all _) 0 rfl rfl hl rfl rfl (Nat.le_of_ble_eq_true rfl) dX6_doOne_103 ⟨Nat.zero_le _, Nat.zero_le _⟩) hP hD hS hA (p_all _) (p_back _) (fun H locs hP hD hS => ?_)
  refine lv_istore (lv' := [(4, .int (wnp (mZ r) ((mO r) (j + 1)))), (3, .int ((mO r) (j + 2))), (2, .int ((mO r) (j + 1))), (0, .ref (o 0)), (1, .int (nI j))]) hx hb dX6_doOne_106 hl (by decide) rfl (fun ls hl => ?_)
  refine lv_iload hx hb dX6_doOne_108 (lv_at hl 0 rfl) ?_
  refine lv_if_ne (tgt := 137) hx hb dX6_doOne_110 (by decide) (fun c_1 => ?_) (fun q9 => absurd (show (wnp (mZ r) ((mO r) (j + 1))) = 0 from q9) (show ¬ (wnp (mZ r) ((mO r) (j + 1))) = 0 from he))
  refine lv_iload hx hb dX6_doOne_137 (lv_at hl 0 rfl) ?_
  exact x_iret X hr hlocks hP hD hS rfl dX6_doOne_139

set_option maxHeartbeats 4000000 in
set_option maxRecDepth 100000 in
theorem c_X6_doOne_wo (l : Launch) (g : wG) (o : Nat → Nat) (r : MS) (cn : Nat) (hc : cn ≤ 6) (hz : mZ r 7 = nI cn) (j : Nat) (hj : j ≤ 60) (ho : mO r j = 119) (mn : Nat) (hm : mn < 2 ^ 31) (hk : mO r (j + 1) = nI mn) (he : wnp (mZ r) (nI mn) = 0) : CtI l g 6 yX6_doOne cX6_doOne 5 (some .int) [.ref (o 0), .int (nI j)] (MW g o r) (wnp (mZ r) (nI mn)) (MW g o (mz r ((pmsM cn mn (mZ r) 0).1))) := by
  intro sz
  refine x_enter (Qc := fun A => QI g A (wnp (mZ r) (nI mn)) (MW g o (mz r ((pmsM cn mn (mZ r) 0).1)))) (by decide) (Nat.le_of_ble_eq_true rfl) ?_
  intro p e s m args below meth c X hr hlocks A hA hP hD hS ls hl
  obtain ⟨⟨hx, hb, hml, hown, hts⟩, hK, hN⟩ := id X
  have hl : lv_has ls 5 [(0, .ref (o 0)), (1, .int (nI j))] := hl
  refine lv_aload_n hx hb dX6_doOne_0 rfl (lv_at hl 0 rfl) ?_
  refine x_get (v := .ref (o 6)) X 0 8 in_X6 hP rfl rfl (by decide) wF_X6_26 rfl rfl dX6_doOne_1 ?_
  refine lv_iload_n hx hb dX6_doOne_4 rfl (lv_at hl 1 rfl) ?_
  refine lv_iconst (v := 1) hx hb dX6_doOne_5 (by decide) ?_
  refine lv_iadd hx hb dX6_doOne_6 ?_
  refine x_iald (v := ((mO r) (j + 1))) X 6 (j + 1) hP rfl (nI_1 j) (by omega) (Nat.le_of_ble_eq_true rfl) rfl dX6_doOne_7 ?_
  refine W.eq (g2 := F0 m 8 ls [.int (nI mn)]) (by rw [hk]) ?_
  refine lv_istore_n (lv' := [(2, .int (nI mn)), (0, .ref (o 0)), (1, .int (nI j))]) hx hb dX6_doOne_8 rfl hl (by decide) rfl (fun ls hl => ?_)
  refine lv_aload_n hx hb dX6_doOne_9 rfl (lv_at hl 1 rfl) ?_
  refine x_get (v := .ref (o 6)) X 0 8 in_X6 hP rfl rfl (by decide) wF_X6_26 rfl rfl dX6_doOne_10 ?_
  refine lv_iload_n hx hb dX6_doOne_13 rfl (lv_at hl 2 rfl) ?_
  refine lv_iconst (v := 2) hx hb dX6_doOne_14 (by decide) ?_
  refine lv_iadd hx hb dX6_doOne_15 ?_
  refine x_iald (v := ((mO r) (j + 2))) X 6 (j + 2) hP rfl (nI_add j 2) (by omega) (Nat.le_of_ble_eq_true rfl) rfl dX6_doOne_16 ?_
  refine lv_istore_n (lv' := [(3, .int ((mO r) (j + 2))), (2, .int (nI mn)), (0, .ref (o 0)), (1, .int (nI j))]) hx hb dX6_doOne_17 rfl hl (by decide) rfl (fun ls hl => ?_)
  refine lv_iconst (v := 0) hx hb dX6_doOne_18 (by decide) ?_
  refine lv_istore (lv' := [(4, .int 0), (3, .int ((mO r) (j + 2))), (2, .int (nI mn)), (0, .ref (o 0)), (1, .int (nI j))]) hx hb dX6_doOne_19 hl (by decide) rfl (fun ls hl => ?_)
  refine lv_aload_n hx hb dX6_doOne_21 rfl (lv_at hl 3 rfl) ?_
  refine x_get (v := .ref (o 6)) X 0 8 in_X6 hP rfl rfl (by decide) wF_X6_26 rfl rfl dX6_doOne_22 ?_
  refine lv_iload_n hx hb dX6_doOne_25 rfl (lv_at hl 4 rfl) ?_
  refine x_iald (v := ((mO r) j)) X 6 j hP rfl rfl (by omega) (Nat.le_of_ble_eq_true rfl) rfl dX6_doOne_26 ?_
  refine W.eq (g2 := F0 m 27 ls [.int 119]) (by rw [ho]) ?_
  refine lv_lookup (off := 74) (tgt := 101) hx hb dX6_doOne_27 (by decide) rfl (by decide) ?_
  refine lv_aload_n hx hb dX6_doOne_101 rfl (lv_at hl 3 rfl) ?_
  refine lv_iload_n hx hb dX6_doOne_102 rfl (lv_at hl 2 rfl) ?_
  refine x_goI (wn := MW g o r) (x_rV (As := [.int (nI mn)]) X (c_X6_whyNotPass l g o r  (nI mn) _) yf_X6_whyNotPass yi_X6_whyNotPass wM_X6_90 ⟨Nat.le_of_ble_eq_true rfl, Nat.le_of_ble_eq_true rfl⟩ hP hD (p_all _) 0 rfl rfl hl rfl rfl (Nat.le_of_ble_eq_true rfl) dX6_doOne_103 ⟨Nat.zero_le _, Nat.zero_le _⟩) hP hD hS hA (p_all _) (p_back _) (fun H locs hP hD hS => ?_)
  refine lv_istore (lv' := [(4, .int (wnp (mZ r) (nI mn))), (3, .int ((mO r) (j + 2))), (2, .int (nI mn)), (0, .ref (o 0)), (1, .int (nI j))]) hx hb dX6_doOne_106 hl (by decide) rfl (fun ls hl => ?_)
  refine lv_iload hx hb dX6_doOne_108 (lv_at hl 0 rfl) ?_
  refine lv_if_ne (tgt := 137) hx hb dX6_doOne_110 (by decide) (fun q9 => absurd (show (wnp (mZ r) (nI mn)) = 0 from he) q9) (fun c_1 => ?_)
  refine lv_aload_n hx hb dX6_doOne_113 rfl (lv_at hl 3 rfl) ?_
  refine lv_iload_n hx hb dX6_doOne_114 rfl (lv_at hl 2 rfl) ?_
  refine x_goI (wn := MW g o (mz r ((pmsM cn mn (mZ r) 0).1))) (x_rV (As := [.int (nI mn)]) X (c_X6_passes l g o r cn hc hz mn hm  _) yf_X6_passes yi_X6_passes wM_X6_93 ⟨Nat.le_of_ble_eq_true rfl, Nat.le_of_ble_eq_true rfl⟩ hP hD (p_all _) 0 rfl rfl hl rfl rfl (Nat.le_of_ble_eq_true rfl) dX6_doOne_115 ⟨Nat.zero_le _, Nat.zero_le _⟩) hP hD hS hA (p_all _) (p_back _) (fun H locs hP hD hS => ?_)
  refine lv_pop hx hb dX6_doOne_118 rfl ?_
  refine lv_goto (tgt := 137) hx hb dX6_doOne_119 (by decide) ?_
  refine lv_iload hx hb dX6_doOne_137 (lv_at hl 0 rfl) ?_
  have E : (MW g o (mz r ((pmsM cn mn (mZ r) 0).1)) : va_W) = MW g o (mz r (pmsM cn mn (mZ r) 0).1) := rfl
  exact x_iret X hr hlocks (pw E hP) (dw E hD) hS rfl dX6_doOne_139

def dzZ (z : RI) (cn : Nat) (op a b : Int32) : RI :=
  if op = 102 then upd z (8 + 7 * a.toNatClampNeg) b
  else if op = 107 then (if wnh z cn a b = 0 then hirM z cn a b else z)
  else if op = 119 then (if wnp z a = 0 then (pmsM cn a.toNatClampNeg z 0).1 else z)
  else if op = 111 then oilM (8 + 7 * a.toNatClampNeg) z
  else hanM (8 + 7 * a.toNatClampNeg) z
def dzR (z : RI) (cn : Nat) (op a b : Int32) : Int32 := if op = 107 then wnh z cn a b else if op = 119 then wnp z a else 0
def okT (x : RI) (j : Nat) : Prop := x j = 107 ∨ (x j = 119 ∧ ∃ mn, mn < 2 ^ 31 ∧ x (j + 1) = nI mn) ∨ ((x j = 102 ∨ x j = 111 ∨ x j = 98) ∧ (x (j + 1) = 0 ∨ x (j + 1) = 1 ∨ x (j + 1) = 2 ∨ x (j + 1) = 3))
theorem c_X6_doOne (l : Launch) (g : wG) (o : Nat → Nat) (r : MS) (cn : Nat) (hc : cn ≤ 6) (hz : mZ r 7 = nI cn) (j : Nat) (hj : j ≤ 60) (okO : okT (mO r) j) : CtI l g 6 yX6_doOne cX6_doOne 5 (some .int) [.ref (o 0), .int (nI j)] (MW g o r) (dzR (mZ r) cn (mO r j) (mO r (j + 1)) (mO r (j + 2))) (MW g o (mz r (dzZ (mZ r) cn (mO r j) (mO r (j + 1)) (mO r (j + 2))))) := by
  rcases okO with ho | ⟨ho, mn, hm, hk⟩ | ⟨ho, hk⟩
  · have R : dzR (mZ r) cn (mO r j) (mO r (j + 1)) (mO r (j + 2)) = wnh (mZ r) cn (mO r (j + 1)) (mO r (j + 2)) := by unfold dzR; rw [ho]; exact if_pos rfl
    by_cases he : wnh (mZ r) cn (mO r (j + 1)) (mO r (j + 2)) = 0
    · have E : dzZ (mZ r) cn (mO r j) (mO r (j + 1)) (mO r (j + 2)) = hirM (mZ r) cn (mO r (j + 1)) (mO r (j + 2)) := by unfold dzZ; rw [ho]; exact (if_neg (by decide)).trans ((if_pos rfl).trans (if_pos he))
      rw [E, R]; exact c_X6_doOne_ko l g o r cn hc hz j hj ho he
    · have E : dzZ (mZ r) cn (mO r j) (mO r (j + 1)) (mO r (j + 2)) = mZ r := by unfold dzZ; rw [ho]; exact (if_neg (by decide)).trans ((if_pos rfl).trans (if_neg he))
      rw [E, R]; exact c_X6_doOne_ke l g o r cn hc hz j hj ho he
  · have R : dzR (mZ r) cn (mO r j) (mO r (j + 1)) (mO r (j + 2)) = wnp (mZ r) (mO r (j + 1)) := by unfold dzR; rw [ho]; exact (if_neg (by decide)).trans (if_pos rfl)
    by_cases he : wnp (mZ r) (mO r (j + 1)) = 0
    · have E : dzZ (mZ r) cn (mO r j) (mO r (j + 1)) (mO r (j + 2)) = (pmsM cn mn (mZ r) 0).1 := by unfold dzZ; rw [ho]; refine (if_neg (by decide)).trans ((if_neg (by decide)).trans ((if_pos rfl).trans ((if_pos he).trans ?_))); rw [hk, nI_clamp hm]
      rw [E, R, hk]; rw [hk] at he; exact c_X6_doOne_wo l g o r cn hc hz j hj ho mn hm hk he
    · have E : dzZ (mZ r) cn (mO r j) (mO r (j + 1)) (mO r (j + 2)) = mZ r := by unfold dzZ; rw [ho]; exact (if_neg (by decide)).trans ((if_neg (by decide)).trans ((if_pos rfl).trans (if_neg he)))
      rw [E, R]; exact c_X6_doOne_we l g o r cn hc hz j hj ho he
  · rcases ho with ho | ho | ho
    · have R : dzR (mZ r) cn (mO r j) (mO r (j + 1)) (mO r (j + 2)) = 0 := by unfold dzR; rw [ho]; exact (if_neg (by decide)).trans (if_neg (by decide))
      rcases hk with hk | hk | hk | hk
      · have E : dzZ (mZ r) cn (mO r j) (mO r (j + 1)) (mO r (j + 2)) = (upd (mZ r) 8 (mO r (j + 2))) := by unfold dzZ; rw [ho, hk]; exact if_pos rfl
        rw [E, R]; exact c_X6_doOne_f0 l g o r j hj ho hk
      · have E : dzZ (mZ r) cn (mO r j) (mO r (j + 1)) (mO r (j + 2)) = (upd (mZ r) 15 (mO r (j + 2))) := by unfold dzZ; rw [ho, hk]; exact if_pos rfl
        rw [E, R]; exact c_X6_doOne_f1 l g o r j hj ho hk
      · have E : dzZ (mZ r) cn (mO r j) (mO r (j + 1)) (mO r (j + 2)) = (upd (mZ r) 22 (mO r (j + 2))) := by unfold dzZ; rw [ho, hk]; exact if_pos rfl
        rw [E, R]; exact c_X6_doOne_f2 l g o r j hj ho hk
      · have E : dzZ (mZ r) cn (mO r j) (mO r (j + 1)) (mO r (j + 2)) = (upd (mZ r) 29 (mO r (j + 2))) := by unfold dzZ; rw [ho, hk]; exact if_pos rfl
        rw [E, R]; exact c_X6_doOne_f3 l g o r j hj ho hk
    · have R : dzR (mZ r) cn (mO r j) (mO r (j + 1)) (mO r (j + 2)) = 0 := by unfold dzR; rw [ho]; exact (if_neg (by decide)).trans (if_neg (by decide))
      rcases hk with hk | hk | hk | hk
      · have E : dzZ (mZ r) cn (mO r j) (mO r (j + 1)) (mO r (j + 2)) = (oilM 8 (mZ r)) := by unfold dzZ; rw [ho, hk]; exact (if_neg (by decide)).trans ((if_neg (by decide)).trans ((if_neg (by decide)).trans (if_pos rfl)))
        rw [E, R]; exact c_X6_doOne_o0 l g o r j hj ho hk
      · have E : dzZ (mZ r) cn (mO r j) (mO r (j + 1)) (mO r (j + 2)) = (oilM 15 (mZ r)) := by unfold dzZ; rw [ho, hk]; exact (if_neg (by decide)).trans ((if_neg (by decide)).trans ((if_neg (by decide)).trans (if_pos rfl)))
        rw [E, R]; exact c_X6_doOne_o1 l g o r j hj ho hk
      · have E : dzZ (mZ r) cn (mO r j) (mO r (j + 1)) (mO r (j + 2)) = (oilM 22 (mZ r)) := by unfold dzZ; rw [ho, hk]; exact (if_neg (by decide)).trans ((if_neg (by decide)).trans ((if_neg (by decide)).trans (if_pos rfl)))
        rw [E, R]; exact c_X6_doOne_o2 l g o r j hj ho hk
      · have E : dzZ (mZ r) cn (mO r j) (mO r (j + 1)) (mO r (j + 2)) = (oilM 29 (mZ r)) := by unfold dzZ; rw [ho, hk]; exact (if_neg (by decide)).trans ((if_neg (by decide)).trans ((if_neg (by decide)).trans (if_pos rfl)))
        rw [E, R]; exact c_X6_doOne_o3 l g o r j hj ho hk
    · have R : dzR (mZ r) cn (mO r j) (mO r (j + 1)) (mO r (j + 2)) = 0 := by unfold dzR; rw [ho]; exact (if_neg (by decide)).trans (if_neg (by decide))
      rcases hk with hk | hk | hk | hk
      · have E : dzZ (mZ r) cn (mO r j) (mO r (j + 1)) (mO r (j + 2)) = (hanM 8 (mZ r)) := by unfold dzZ; rw [ho, hk]; exact (if_neg (by decide)).trans ((if_neg (by decide)).trans ((if_neg (by decide)).trans (if_neg (by decide))))
        rw [E, R]; exact c_X6_doOne_b0 l g o r j hj ho hk
      · have E : dzZ (mZ r) cn (mO r j) (mO r (j + 1)) (mO r (j + 2)) = (hanM 15 (mZ r)) := by unfold dzZ; rw [ho, hk]; exact (if_neg (by decide)).trans ((if_neg (by decide)).trans ((if_neg (by decide)).trans (if_neg (by decide))))
        rw [E, R]; exact c_X6_doOne_b1 l g o r j hj ho hk
      · have E : dzZ (mZ r) cn (mO r j) (mO r (j + 1)) (mO r (j + 2)) = (hanM 22 (mZ r)) := by unfold dzZ; rw [ho, hk]; exact (if_neg (by decide)).trans ((if_neg (by decide)).trans ((if_neg (by decide)).trans (if_neg (by decide))))
        rw [E, R]; exact c_X6_doOne_b2 l g o r j hj ho hk
      · have E : dzZ (mZ r) cn (mO r j) (mO r (j + 1)) (mO r (j + 2)) = (hanM 29 (mZ r)) := by unfold dzZ; rw [ho, hk]; exact (if_neg (by decide)).trans ((if_neg (by decide)).trans ((if_neg (by decide)).trans (if_neg (by decide))))
        rw [E, R]; exact c_X6_doOne_b3 l g o r j hj ho hk
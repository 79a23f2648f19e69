def turnC (ld : Int32) (o : Nat) (z : Nat → Int32) : Nat → Int32 := upd (upd (upd (upd (upd z o (fpD ld (z o) (z (o + 1)) (z (o + 2)) (z (o + 3)))) (o + 2) (fpS ld (z (o + 1)) (z (o + 2)) (z (o + 3)))) (o + 3) (fpW ld (z (o + 1)) (z (o + 2)) (z (o + 3)) (z (o + 4)))) (o + 4) (fpL ld (z (o + 1)) (z (o + 2)) (z (o + 3)) (z (o + 4)))) (o + 6) (fpT ld (z o) (z (o + 1)) (z (o + 2)) (z (o + 3)) (z (o + 5)) (z (o + 6)))
def turnR (ld : Int32) (o : Nat) (z : Nat → Int32) : Int32 := fpR ld (z o) (z (o + 1)) (z (o + 2)) (z (o + 3)) (z (o + 5))
def mi4 (ld : Int32) (z : Nat → Int32) : Nat → Int32 := turnC ld 29 (turnC ld 22 (turnC ld 15 (turnC ld 8 z)))
def miA (sg z : Nat → Int32) : Nat → Int32 := shC sg (mi4 (sg 0) (upd z 0 (z 0 + 1)))
def minZ (cn : Nat) (z sf wf sg : Nat → Int32) : Nat → Int32 := if jrem (miA sg z 0) 1440 = 720 then rsZ cn (miA sg z) sf wf sg else miA sg z
def minR (sg z : Nat → Int32) : Int32 := (((0 + turnR (sg 0) 8 (upd z 0 (z 0 + 1))) + turnR (sg 0) 15 (turnC (sg 0) 8 (upd z 0 (z 0 + 1)))) + turnR (sg 0) 22 (turnC (sg 0) 15 (turnC (sg 0) 8 (upd z 0 (z 0 + 1))))) + turnR (sg 0) 29 (turnC (sg 0) 22 (turnC (sg 0) 15 (turnC (sg 0) 8 (upd z 0 (z 0 + 1)))))
theorem turnC_7 (ld : Int32) (o : Nat) (z : Nat → Int32) (h : 8 ≤ o) : turnC ld o z 7 = z 7 := by
  simp only [turnC, upd]
  rw [if_neg (by omega), if_neg (by omega), if_neg (by omega), if_neg (by omega), if_neg (by omega)]
theorem shC_7 (sg z : Nat → Int32) : shC sg z 7 = z 7 := rfl
theorem miA_7 (sg z : Nat → Int32) : miA sg z 7 = z 7 := by
  unfold miA mi4
  rw [shC_7, turnC_7 _ _ _ (by decide), turnC_7 _ _ _ (by decide), turnC_7 _ _ _ (by decide), turnC_7 _ _ _ (by decide)]
  rfl
set_option maxHeartbeats 4000000 in
set_option maxRecDepth 100000 in
theorem c_X3_passMinute (l : Launch) (g : wG) (t : Nat → Nat) (z sf wf sg : Nat → Int32) (cn : Nat) (hc : cn ≤ 6) (hz : z 7 = nI cn) : CtI l g 3 yX3_passMinute cX3_passMinute 6 (some .int) [.ref (t 0)] (TW g t z sf wf sg) (minR sg z) (TW g t (minZ cn z sf wf sg) sf wf sg) := by
  intro sz
  refine x_enter (Qc := fun A => QI g A (minR sg z) (TW g t (minZ cn z sf wf sg) sf wf sg)) (by decide) (Nat.le_of_ble_eq_true rfl) ?_
  intro p e s m args below meth c X hr hlocks A hA hP hD hS ls hl
  obtain ⟨⟨hx, hb, hml, hown, hts⟩, hK, hN⟩ := id X
  have hl : lv_has ls 6 [(0, .ref (t 0))] := hl
  refine lv_aload_n hx hb dX3_passMinute_0 rfl (lv_at hl 0 rfl) ?_
  refine lv_dup hx hb dX3_passMinute_1 rfl ?_
  refine x_get (v := .int (z 0)) X 0 3 in_X3 hP rfl rfl (by decide) wF_X3_47 rfl rfl dX3_passMinute_2 ?_
  refine lv_iconst (v := 1) hx hb dX3_passMinute_5 (by decide) ?_
  refine lv_iadd hx hb dX3_passMinute_6 ?_
  refine x_put (v := .int ((z 0) + 1)) (ty0 := tyX3) (ws2 := TW g t (upd z 0 ((z 0) + 1)) sf wf sg) X 0 3 in_X3 tyX3_ok nmX3 hP hD hS rfl rfl (by decide) wF_X3_47 rfl rfl rfl rfl (Nat.le_of_ble_eq_true rfl) rfl dX3_passMinute_7 (fun H locs hP hD hS => ?_)
  refine lv_iconst (v := 0) hx hb dX3_passMinute_10 (by decide) ?_
  refine lv_istore_n (lv' := [(1, .int 0), (0, .ref (t 0))]) hx hb dX3_passMinute_11 rfl hl (by decide) rfl (fun ls hl => ?_)
  refine lv_aload_n hx hb dX3_passMinute_12 rfl (lv_at hl 1 rfl) ?_
  refine x_get (v := .ref (t 1)) X 0 0 in_X3 hP rfl rfl (by decide) wF_X3_11 rfl rfl dX3_passMinute_13 ?_
  refine lv_astore_n (lv' := [(2, .ref (t 1)), (1, .int 0), (0, .ref (t 0))]) hx hb dX3_passMinute_16 rfl hl (by decide) rfl (fun ls hl => ?_)
  refine lv_aload_n hx hb dX3_passMinute_17 rfl (lv_at hl 0 rfl) ?_
  refine x_alen (v := 4) X 1 2 hP rfl rfl rfl dX3_passMinute_18 ?_
  refine lv_istore_n (lv' := [(3, .int 4), (2, .ref (t 1)), (1, .int 0), (0, .ref (t 0))]) hx hb dX3_passMinute_19 rfl hl (by decide) rfl (fun ls hl => ?_)
  refine lv_iconst (v := 0) hx hb dX3_passMinute_20 (by decide) ?_
  refine lv_istore (lv' := [(4, .int 0), (3, .int 4), (2, .ref (t 1)), (1, .int 0), (0, .ref (t 0))]) hx hb dX3_passMinute_21 hl (by decide) rfl (fun ls hl => ?_)
  refine lv_iload hx hb dX3_passMinute_23 (lv_at hl 0 rfl) ?_
  refine lv_iload_n hx hb dX3_passMinute_25 rfl (lv_at hl 1 rfl) ?_
  refine lv_icmp_ge (tgt := 55) hx hb dX3_passMinute_26 (by decide) (fun q9 => absurd q9 (show ¬ (4 : Int32) ≤ (0 : Int32) from (by decide))) (fun c_1 => ?_)
  refine lv_aload_n hx hb dX3_passMinute_29 rfl (lv_at hl 2 rfl) ?_
  refine lv_iload hx hb dX3_passMinute_30 (lv_at hl 0 rfl) ?_
  refine x_aald (v := .ref (t 2)) X 1 2 0 hP rfl rfl rfl (by decide) (Nat.le_of_ble_eq_true rfl) rfl dX3_passMinute_32 ?_
  refine lv_astore (lv' := [(5, .ref (t 2)), (4, .int 0), (3, .int 4), (2, .ref (t 1)), (1, .int 0), (0, .ref (t 0))]) hx hb dX3_passMinute_33 hl (by decide) rfl (fun ls hl => ?_)
  refine lv_iload_n hx hb dX3_passMinute_35 rfl (lv_at hl 4 rfl) ?_
  refine lv_aload hx hb dX3_passMinute_36 (lv_at hl 0 rfl) ?_
  refine lv_aload_n hx hb dX3_passMinute_38 rfl (lv_at hl 5 rfl) ?_
  refine x_get (v := .ref (t 9)) X 0 2 in_X3 hP rfl rfl (by decide) wF_X3_24 rfl rfl dX3_passMinute_39 ?_
  refine lv_iconst (v := 0) hx hb dX3_passMinute_42 (by decide) ?_
  refine x_iald (v := (sg 0)) X 9 0 hP rfl rfl (by decide) (Nat.le_of_ble_eq_true rfl) rfl dX3_passMinute_43 ?_
  refine x_goI (wn := TW g t (turnC (sg 0) 8 (upd z 0 ((z 0) + 1))) sf wf sg) (x_rV (As := [.int (sg 0)]) X (c_X0_passMinute l g (t 2) (z 8) (z 9) (z 10) (z 11) (z 12) (z 13) (z 14) (sg 0) _) yf_X0_passMinute yi_X0_passMinute wM_X3_69 ⟨Nat.le_of_ble_eq_true rfl, Nat.le_of_ble_eq_true rfl⟩ hP hD (wo_perm (ws' := [_] ++ [_, _, _, _, _, _, _, _, _]) 10 [2, 0, 1, 3, 4, 5, 6, 7, 8, 9] rfl (by decide) rfl) 0 rfl rfl hl rfl rfl (Nat.le_of_ble_eq_true rfl) dX3_passMinute_44 ⟨Nat.zero_le _, Nat.zero_le _⟩) hP hD hS hA (wo_perm (ws' := [_] ++ [_, _, _, _, _, _, _, _, _]) 10 [2, 0, 1, 3, 4, 5, 6, 7, 8, 9] rfl (by decide) rfl) (wo_perm 10 [0, 1, 9, 2, 3, 4, 5, 6, 7, 8] rfl (by decide) rfl) (fun H locs hP hD hS => ?_)
  obtain ⟨y_1, ey_1⟩ : ∃ y : Nat → Int32, y = (turnC (sg 0) 8 (upd z 0 ((z 0) + 1))) := ⟨_, rfl⟩
  have hP : va_P g.1 vwCl (TW g t y_1 sf wf sg) H := by rw [ey_1]; exact hP
  have hD : va_D A (TW g t y_1 sf wf sg) := by rw [ey_1]; exact hD
  refine lv_iadd hx hb dX3_passMinute_47 ?_
  refine lv_istore_n (lv' := [(1, .int (0 + (fpR (sg 0) (z 8) (z 9) (z 10) (z 11) (z 13)))), (5, .ref (t 2)), (4, .int 0), (3, .int 4), (2, .ref (t 1)), (0, .ref (t 0))]) hx hb dX3_passMinute_48 rfl hl (by decide) rfl (fun ls hl => ?_)
  refine lv_iinc (v := 1) (lv' := [(4, .int 1), (1, .int (0 + (fpR (sg 0) (z 8) (z 9) (z 10) (z 11) (z 13)))), (5, .ref (t 2)), (3, .int 4), (2, .ref (t 1)), (0, .ref (t 0))]) hx hb dX3_passMinute_49 hl (k := 2) rfl rfl (by decide) rfl (fun ls hl => ?_)
  refine lv_goto (tgt := 23) hx hb dX3_passMinute_52 (by decide) ?_
  refine lv_iload hx hb dX3_passMinute_23 (lv_at hl 0 rfl) ?_
  refine lv_iload_n hx hb dX3_passMinute_25 rfl (lv_at hl 3 rfl) ?_
  refine lv_icmp_ge (tgt := 55) hx hb dX3_passMinute_26 (by decide) (fun q9 => absurd q9 (show ¬ (4 : Int32) ≤ (1 : Int32) from (by decide))) (fun c_2 => ?_)
  refine lv_aload_n hx hb dX3_passMinute_29 rfl (lv_at hl 4 rfl) ?_
  refine lv_iload hx hb dX3_passMinute_30 (lv_at hl 0 rfl) ?_
  refine x_aald (v := .ref (t 3)) X 1 2 1 hP rfl rfl rfl (by decide) (Nat.le_of_ble_eq_true rfl) rfl dX3_passMinute_32 ?_
  refine lv_astore (lv' := [(5, .ref (t 3)), (4, .int 1), (1, .int (0 + (fpR (sg 0) (z 8) (z 9) (z 10) (z 11) (z 13)))), (3, .int 4), (2, .ref (t 1)), (0, .ref (t 0))]) hx hb dX3_passMinute_33 hl (by decide) rfl (fun ls hl => ?_)
  refine lv_iload_n hx hb dX3_passMinute_35 rfl (lv_at hl 2 rfl) ?_
  refine lv_aload hx hb dX3_passMinute_36 (lv_at hl 0 rfl) ?_
  refine lv_aload_n hx hb dX3_passMinute_38 rfl (lv_at hl 5 rfl) ?_
  refine x_get (v := .ref (t 9)) X 0 2 in_X3 hP rfl rfl (by decide) wF_X3_24 rfl rfl dX3_passMinute_39 ?_
  refine lv_iconst (v := 0) hx hb dX3_passMinute_42 (by decide) ?_
  refine x_iald (v := (sg 0)) X 9 0 hP rfl rfl (by decide) (Nat.le_of_ble_eq_true rfl) rfl dX3_passMinute_43 ?_
  refine x_goI (wn := TW g t (turnC (sg 0) 15 y_1) sf wf sg) (x_rV (As := [.int (sg 0)]) X (c_X0_passMinute l g (t 3) (y_1 15) (y_1 16) (y_1 17) (y_1 18) (y_1 19) (y_1 20) (y_1 21) (sg 0) _) yf_X0_passMinute yi_X0_passMinute wM_X3_69 ⟨Nat.le_of_ble_eq_true rfl, Nat.le_of_ble_eq_true rfl⟩ hP hD (wo_perm (ws' := [_] ++ [_, _, _, _, _, _, _, _, _]) 10 [3, 0, 1, 2, 4, 5, 6, 7, 8, 9] rfl (by decide) rfl) 0 rfl rfl hl rfl rfl (Nat.le_of_ble_eq_true rfl) dX3_passMinute_44 ⟨Nat.zero_le _, Nat.zero_le _⟩) hP hD hS hA (wo_perm (ws' := [_] ++ [_, _, _, _, _, _, _, _, _]) 10 [3, 0, 1, 2, 4, 5, 6, 7, 8, 9] rfl (by decide) rfl) (wo_perm 10 [0, 1, 2, 9, 3, 4, 5, 6, 7, 8] rfl (by decide) rfl) (fun H locs hP hD hS => ?_)
  obtain ⟨y_2, ey_2⟩ : ∃ y : Nat → Int32, y = (turnC (sg 0) 15 y_1) := ⟨_, rfl⟩
  have hP : va_P g.1 vwCl (TW g t y_2 sf wf sg) H := by rw [ey_2]; exact hP
  have hD : va_D A (TW g t y_2 sf wf sg) := by rw [ey_2]; exact hD
  refine lv_iadd hx hb dX3_passMinute_47 ?_
  refine lv_istore_n (lv' := [(1, .int ((0 + (fpR (sg 0) (z 8) (z 9) (z 10) (z 11) (z 13))) + (fpR (sg 0) (y_1 15) (y_1 16) (y_1 17) (y_1 18) (y_1 20)))), (5, .ref (t 3)), (4, .int 1), (3, .int 4), (2, .ref (t 1)), (0, .ref (t 0))]) hx hb dX3_passMinute_48 rfl hl (by decide) rfl (fun ls hl => ?_)
  refine lv_iinc (v := 2) (lv' := [(4, .int 2), (1, .int ((0 + (fpR (sg 0) (z 8) (z 9) (z 10) (z 11) (z 13))) + (fpR (sg 0) (y_1 15) (y_1 16) (y_1 17) (y_1 18) (y_1 20)))), (5, .ref (t 3)), (3, .int 4), (2, .ref (t 1)), (0, .ref (t 0))]) hx hb dX3_passMinute_49 hl (k := 2) rfl rfl (by decide) rfl (fun ls hl => ?_)
  refine lv_goto (tgt := 23) hx hb dX3_passMinute_52 (by decide) ?_
  refine lv_iload hx hb dX3_passMinute_23 (lv_at hl 0 rfl) ?_
  refine lv_iload_n hx hb dX3_passMinute_25 rfl (lv_at hl 3 rfl) ?_
  refine lv_icmp_ge (tgt := 55) hx hb dX3_passMinute_26 (by decide) (fun q9 => absurd q9 (show ¬ (4 : Int32) ≤ (2 : Int32) from (by decide))) (fun c_3 => ?_)
  refine lv_aload_n hx hb dX3_passMinute_29 rfl (lv_at hl 4 rfl) ?_
  refine lv_iload hx hb dX3_passMinute_30 (lv_at hl 0 rfl) ?_
  refine x_aald (v := .ref (t 4)) X 1 2 2 hP rfl rfl rfl (by decide) (Nat.le_of_ble_eq_true rfl) rfl dX3_passMinute_32 ?_
  refine lv_astore (lv' := [(5, .ref (t 4)), (4, .int 2), (1, .int ((0 + (fpR (sg 0) (z 8) (z 9) (z 10) (z 11) (z 13))) + (fpR (sg 0) (y_1 15) (y_1 16) (y_1 17) (y_1 18) (y_1 20)))), (3, .int 4), (2, .ref (t 1)), (0, .ref (t 0))]) hx hb dX3_passMinute_33 hl (by decide) rfl (fun ls hl => ?_)
  refine lv_iload_n hx hb dX3_passMinute_35 rfl (lv_at hl 2 rfl) ?_
  refine lv_aload hx hb dX3_passMinute_36 (lv_at hl 0 rfl) ?_
  refine lv_aload_n hx hb dX3_passMinute_38 rfl (lv_at hl 5 rfl) ?_
  refine x_get (v := .ref (t 9)) X 0 2 in_X3 hP rfl rfl (by decide) wF_X3_24 rfl rfl dX3_passMinute_39 ?_
  refine lv_iconst (v := 0) hx hb dX3_passMinute_42 (by decide) ?_
  refine x_iald (v := (sg 0)) X 9 0 hP rfl rfl (by decide) (Nat.le_of_ble_eq_true rfl) rfl dX3_passMinute_43 ?_
  refine x_goI (wn := TW g t (turnC (sg 0) 22 y_2) sf wf sg) (x_rV (As := [.int (sg 0)]) X (c_X0_passMinute l g (t 4) (y_2 22) (y_2 23) (y_2 24) (y_2 25) (y_2 26) (y_2 27) (y_2 28) (sg 0) _) yf_X0_passMinute yi_X0_passMinute wM_X3_69 ⟨Nat.le_of_ble_eq_true rfl, Nat.le_of_ble_eq_true rfl⟩ hP hD (wo_perm (ws' := [_] ++ [_, _, _, _, _, _, _, _, _]) 10 [4, 0, 1, 2, 3, 5, 6, 7, 8, 9] rfl (by decide) rfl) 0 rfl rfl hl rfl rfl (Nat.le_of_ble_eq_true rfl) dX3_passMinute_44 ⟨Nat.zero_le _, Nat.zero_le _⟩) hP hD hS hA (wo_perm (ws' := [_] ++ [_, _, _, _, _, _, _, _, _]) 10 [4, 0, 1, 2, 3, 5, 6, 7, 8, 9] rfl (by decide) rfl) (wo_perm 10 [0, 1, 2, 3, 9, 4, 5, 6, 7, 8] rfl (by decide) rfl) (fun H locs hP hD hS => ?_)
  obtain ⟨y_3, ey_3⟩ : ∃ y : Nat → Int32, y = (turnC (sg 0) 22 y_2) := ⟨_, rfl⟩
  have hP : va_P g.1 vwCl (TW g t y_3 sf wf sg) H := by rw [ey_3]; exact hP
  have hD : va_D A (TW g t y_3 sf wf sg) := by rw [ey_3]; exact hD
  refine lv_iadd hx hb dX3_passMinute_47 ?_
  refine lv_istore_n (lv' := [(1, .int (((0 + (fpR (sg 0) (z 8) (z 9) (z 10) (z 11) (z 13))) + (fpR (sg 0) (y_1 15) (y_1 16) (y_1 17) (y_1 18) (y_1 20))) + (fpR (sg 0) (y_2 22) (y_2 23) (y_2 24) (y_2 25) (y_2 27)))), (5, .ref (t 4)), (4, .int 2), (3, .int 4), (2, .ref (t 1)), (0, .ref (t 0))]) hx hb dX3_passMinute_48 rfl hl (by decide) rfl (fun ls hl => ?_)
  refine lv_iinc (v := 3) (lv' := [(4, .int 3), (1, .int (((0 + (fpR (sg 0) (z 8) (z 9) (z 10) (z 11) (z 13))) + (fpR (sg 0) (y_1 15) (y_1 16) (y_1 17) (y_1 18) (y_1 20))) + (fpR (sg 0) (y_2 22) (y_2 23) (y_2 24) (y_2 25) (y_2 27)))), (5, .ref (t 4)), (3, .int 4), (2, .ref (t 1)), (0, .ref (t 0))]) hx hb dX3_passMinute_49 hl (k := 2) rfl rfl (by decide) rfl (fun ls hl => ?_)
  refine lv_goto (tgt := 23) hx hb dX3_passMinute_52 (by decide) ?_
  refine lv_iload hx hb dX3_passMinute_23 (lv_at hl 0 rfl) ?_
  refine lv_iload_n hx hb dX3_passMinute_25 rfl (lv_at hl 3 rfl) ?_
  refine lv_icmp_ge (tgt := 55) hx hb dX3_passMinute_26 (by decide) (fun q9 => absurd q9 (show ¬ (4 : Int32) ≤ (3 : Int32) from (by decide))) (fun c_4 => ?_)
  refine lv_aload_n hx hb dX3_passMinute_29 rfl (lv_at hl 4 rfl) ?_
  refine lv_iload hx hb dX3_passMinute_30 (lv_at hl 0 rfl) ?_
  refine x_aald (v := .ref (t 5)) X 1 2 3 hP rfl rfl rfl (by decide) (Nat.le_of_ble_eq_true rfl) rfl dX3_passMinute_32 ?_
  refine lv_astore (lv' := [(5, .ref (t 5)), (4, .int 3), (1, .int (((0 + (fpR (sg 0) (z 8) (z 9) (z 10) (z 11) (z 13))) + (fpR (sg 0) (y_1 15) (y_1 16) (y_1 17) (y_1 18) (y_1 20))) + (fpR (sg 0) (y_2 22) (y_2 23) (y_2 24) (y_2 25) (y_2 27)))), (3, .int 4), (2, .ref (t 1)), (0, .ref (t 0))]) hx hb dX3_passMinute_33 hl (by decide) rfl (fun ls hl => ?_)
  refine lv_iload_n hx hb dX3_passMinute_35 rfl (lv_at hl 2 rfl) ?_
  refine lv_aload hx hb dX3_passMinute_36 (lv_at hl 0 rfl) ?_
  refine lv_aload_n hx hb dX3_passMinute_38 rfl (lv_at hl 5 rfl) ?_
  refine x_get (v := .ref (t 9)) X 0 2 in_X3 hP rfl rfl (by decide) wF_X3_24 rfl rfl dX3_passMinute_39 ?_
  refine lv_iconst (v := 0) hx hb dX3_passMinute_42 (by decide) ?_
  refine x_iald (v := (sg 0)) X 9 0 hP rfl rfl (by decide) (Nat.le_of_ble_eq_true rfl) rfl dX3_passMinute_43 ?_
  refine x_goI (wn := TW g t (turnC (sg 0) 29 y_3) sf wf sg) (x_rV (As := [.int (sg 0)]) X (c_X0_passMinute l g (t 5) (y_3 29) (y_3 30) (y_3 31) (y_3 32) (y_3 33) (y_3 34) (y_3 35) (sg 0) _) yf_X0_passMinute yi_X0_passMinute wM_X3_69 ⟨Nat.le_of_ble_eq_true rfl, Nat.le_of_ble_eq_true rfl⟩ hP hD (wo_perm (ws' := [_] ++ [_, _, _, _, _, _, _, _, _]) 10 [5, 0, 1, 2, 3, 4, 6, 7, 8, 9] rfl (by decide) rfl) 0 rfl rfl hl rfl rfl (Nat.le_of_ble_eq_true rfl) dX3_passMinute_44 ⟨Nat.zero_le _, Nat.zero_le _⟩) hP hD hS hA (wo_perm (ws' := [_] ++ [_, _, _, _, _, _, _, _, _]) 10 [5, 0, 1, 2, 3, 4, 6, 7, 8, 9] rfl (by decide) rfl) (wo_perm 10 [0, 1, 2, 3, 4, 9, 5, 6, 7, 8] rfl (by decide) rfl) (fun H locs hP hD hS => ?_)
  obtain ⟨y_4, ey_4⟩ : ∃ y : Nat → Int32, y = (turnC (sg 0) 29 y_3) := ⟨_, rfl⟩
  have hP : va_P g.1 vwCl (TW g t y_4 sf wf sg) H := by rw [ey_4]; exact hP
  have hD : va_D A (TW g t y_4 sf wf sg) := by rw [ey_4]; exact hD
  refine lv_iadd hx hb dX3_passMinute_47 ?_
  refine lv_istore_n (lv' := [(1, .int ((((0 + (fpR (sg 0) (z 8) (z 9) (z 10) (z 11) (z 13))) + (fpR (sg 0) (y_1 15) (y_1 16) (y_1 17) (y_1 18) (y_1 20))) + (fpR (sg 0) (y_2 22) (y_2 23) (y_2 24) (y_2 25) (y_2 27))) + (fpR (sg 0) (y_3 29) (y_3 30) (y_3 31) (y_3 32) (y_3 34)))), (5, .ref (t 5)), (4, .int 3), (3, .int 4), (2, .ref (t 1)), (0, .ref (t 0))]) hx hb dX3_passMinute_48 rfl hl (by decide) rfl (fun ls hl => ?_)
  refine lv_iinc (v := 4) (lv' := [(4, .int 4), (1, .int ((((0 + (fpR (sg 0) (z 8) (z 9) (z 10) (z 11) (z 13))) + (fpR (sg 0) (y_1 15) (y_1 16) (y_1 17) (y_1 18) (y_1 20))) + (fpR (sg 0) (y_2 22) (y_2 23) (y_2 24) (y_2 25) (y_2 27))) + (fpR (sg 0) (y_3 29) (y_3 30) (y_3 31) (y_3 32) (y_3 34)))), (5, .ref (t 5)), (3, .int 4), (2, .ref (t 1)), (0, .ref (t 0))]) hx hb dX3_passMinute_49 hl (k := 2) rfl rfl (by decide) rfl (fun ls hl => ?_)
  refine lv_goto (tgt := 23) hx hb dX3_passMinute_52 (by decide) ?_
  refine lv_iload hx hb dX3_passMinute_23 (lv_at hl 0 rfl) ?_
  refine lv_iload_n hx hb dX3_passMinute_25 rfl (lv_at hl 3 rfl) ?_
  refine lv_icmp_ge (tgt := 55) hx hb dX3_passMinute_26 (by decide) (fun c_5 => ?_) (fun q9 => absurd (show (4 : Int32) ≤ (4 : Int32) from (by decide)) (show ¬ ((4 : Int32) ≤ (4 : Int32)) from q9))
  refine lv_aload_n hx hb dX3_passMinute_55 rfl (lv_at hl 5 rfl) ?_
  refine x_goV (wn := TW g t (shC sg y_4) sf wf sg) (x_rV (As := []) X (c_X3_strainShaft l g t y_4 sf wf sg  _) yf_X3_strainShaft yi_X3_strainShaft wM_X3_72 ⟨Nat.le_of_ble_eq_true rfl, Nat.le_of_ble_eq_true rfl⟩ hP hD (p_all _) 0 rfl rfl hl rfl rfl (Nat.le_of_ble_eq_true rfl) dX3_passMinute_56 ⟨Nat.zero_le _, Nat.zero_le _⟩) hP hD hS hA (p_all _) (p_back _) (fun H locs hP hD hS => ?_)
  obtain ⟨y_5, ey_5⟩ : ∃ y : Nat → Int32, y = (shC sg y_4) := ⟨_, rfl⟩
  have hP : va_P g.1 vwCl (TW g t y_5 sf wf sg) H := by rw [ey_5]; exact hP
  have hD : va_D A (TW g t y_5 sf wf sg) := by rw [ey_5]; exact hD
  refine lv_aload_n hx hb dX3_passMinute_59 rfl (lv_at hl 5 rfl) ?_
  refine x_goI (wn := TW g t y_5 sf wf sg) (x_rV (As := []) X (c_X3_minuteOfDay l g t y_5 sf wf sg  _) yf_X3_minuteOfDay yi_X3_minuteOfDay wM_X3_75 ⟨Nat.le_of_ble_eq_true rfl, Nat.le_of_ble_eq_true rfl⟩ hP hD (p_all _) 0 rfl rfl hl rfl rfl (Nat.le_of_ble_eq_true rfl) dX3_passMinute_60 ⟨Nat.zero_le _, Nat.zero_le _⟩) hP hD hS hA (p_all _) (p_back _) (fun H locs hP hD hS => ?_)
  refine lv_sipush (v := 720) hx hb dX3_passMinute_63 (by decide) ?_
  refine lv_icmp_ne (tgt := 74) hx hb dX3_passMinute_66 (by decide) (fun (c_6 : ¬ (jrem (y_5 0) 1440) = 720) => ?_) (fun (c_6 : (jrem (y_5 0) 1440) = 720) => ?_)
  · refine lv_iload_n hx hb dX3_passMinute_74 rfl (lv_at hl 1 rfl) ?_
    have e5 : y_5 = miA sg z := by rw [ey_5, ey_4, ey_3, ey_2, ey_1]; rfl
    have E : (TW g t y_5 sf wf sg : va_W) = TW g t (minZ cn z sf wf sg) sf wf sg := by simp only [minZ]; rw [← e5, if_neg c_6]
    exact x_iret X hr hlocks (pw E hP) (dw E hD) hS (by rw [ey_3, ey_2, ey_1]; rfl) dX3_passMinute_75
  · refine lv_aload_n hx hb dX3_passMinute_69 rfl (lv_at hl 5 rfl) ?_
    refine x_goI (wn := TW g t (rsZ cn y_5 sf wf sg) sf wf sg) (x_rV (As := []) X (c_X3_resetFaces l g t y_5 sf wf sg cn hc (by rw [ey_5, shC_7, ey_4, turnC_7 _ _ _ (by decide), ey_3, turnC_7 _ _ _ (by decide), ey_2, turnC_7 _ _ _ (by decide), ey_1, turnC_7 _ _ _ (by decide)]; exact hz) _) yf_X3_resetFaces yi_X3_resetFaces wM_X3_78 ⟨Nat.le_of_ble_eq_true rfl, Nat.le_of_ble_eq_true rfl⟩ hP hD (p_all _) 0 rfl rfl hl rfl rfl (Nat.le_of_ble_eq_true rfl) dX3_passMinute_70 ⟨Nat.zero_le _, Nat.zero_le _⟩) hP hD hS hA (p_all _) (p_back _) (fun H locs hP hD hS => ?_)
    refine lv_pop hx hb dX3_passMinute_73 rfl ?_
    refine lv_iload_n hx hb dX3_passMinute_74 rfl (lv_at hl 1 rfl) ?_
    have e5 : y_5 = miA sg z := by rw [ey_5, ey_4, ey_3, ey_2, ey_1]; rfl
    have E : (TW g t (rsZ cn y_5 sf wf sg) sf wf sg : va_W) = TW g t (minZ cn z sf wf sg) sf wf sg := by simp only [minZ]; rw [← e5, if_pos c_6]
    exact x_iret X hr hlocks (pw E hP) (dw E hD) hS (by rw [ey_3, ey_2, ey_1]; rfl) dX3_passMinute_75

theorem rsL_7 (due tol : Int32) (n : Nat) : ∀ (o : Nat) (z : Nat → Int32) (q : Int32), 8 ≤ o → (rsL due tol n o z q).1 7 = z 7 := by
  induction n with
  | zero => intro o z q _; rfl
  | succ n ih =>
    intro o z q ho
    by_cases h : distC (z o) due ≤ tol
    · simp only [rsL, if_pos h]; exact ih _ _ _ (by omega)
    · simp only [rsL, if_neg h]
      rw [ih _ _ _ (by omega)]
      simp only [upd]
      rw [if_neg (by omega), if_neg (by omega)]
theorem rsZ_7 (cn : Nat) (z sf wf sg : Nat → Int32) : rsZ cn z sf wf sg 7 = z 7 := by
  unfold rsZ
  split
  · rfl
  · show (rsL _ _ 4 8 z 0).1 7 = z 7
    exact rsL_7 _ _ _ _ _ _ (Nat.le_refl 8)
theorem minZ_7 (cn : Nat) (z sf wf sg : Nat → Int32) : minZ cn z sf wf sg 7 = z 7 := by
  unfold minZ
  split
  · rw [rsZ_7, miA_7]
  · rw [miA_7]
def pmsC (cn : Nat) (sf wf sg : Nat → Int32) : Nat → (Nat → Int32) → Int32 → (Nat → Int32) × Int32
  | 0, z, q => (z, q)
  | n + 1, z, q => pmsC cn sf wf sg n (minZ cn z sf wf sg) (q + minR sg z)
theorem pmsC_7 (cn : Nat) (sf wf sg : Nat → Int32) (n : Nat) : ∀ (z : Nat → Int32) (q : Int32), (pmsC cn sf wf sg n z q).1 7 = z 7 := by
  induction n with
  | zero => intro z q; rfl
  | succ n ih => intro z q; simp only [pmsC]; rw [ih, minZ_7]
set_option maxHeartbeats 4000000 in
set_option maxRecDepth 100000 in
theorem c_X3_passMinutes (l : Launch) (g : wG) (t : Nat → Nat) (z sf wf sg : Nat → Int32) (cn : Nat) (hc : cn ≤ 6) (hz : z 7 = nI cn) (mn : Nat) (hm : mn < 2 ^ 31) : CtI l g 4 yX3_passMinutes cX3_passMinutes 4 (some .int) [.ref (t 0), .int (nI mn)] (TW g t z sf wf sg) ((pmsC cn sf wf sg mn z 0).2) (TW g t ((pmsC cn sf wf sg mn z 0).1) sf wf sg) := by
  intro sz
  refine x_enter (Qc := fun A => QI g A ((pmsC cn sf wf sg mn z 0).2) (TW g t ((pmsC cn sf wf sg mn z 0).1) sf wf sg)) (by decide) (Nat.le_of_ble_eq_true rfl) ?_
  intro p e s m args below meth c X hr hlocks A hA hP hD hS ls hl
  obtain ⟨⟨hx, hb, hml, hown, hts⟩, hK, hN⟩ := id X
  have hl : lv_has ls 4 [(0, .ref (t 0)), (1, .int (nI mn))] := hl
  refine lv_iconst (v := 0) hx hb dX3_passMinutes_0 (by decide) ?_
  refine lv_istore_n (lv' := [(2, .int 0), (0, .ref (t 0)), (1, .int (nI mn))]) hx hb dX3_passMinutes_1 rfl hl (by decide) rfl (fun ls hl => ?_)
  refine lv_iconst (v := 0) hx hb dX3_passMinutes_2 (by decide) ?_
  refine lv_istore_n (lv' := [(3, .int 0), (2, .int 0), (0, .ref (t 0)), (1, .int (nI mn))]) hx hb dX3_passMinutes_3 rfl hl (by decide) rfl (fun ls hl => ?_)
  suffices LP4 : ∀ (n : Nat) (k : Nat) (y : Nat → Int32) (q : Int32), k + n = mn → y 7 = nI cn → pmsC cn sf wf sg n y q = pmsC cn sf wf sg mn z 0 → ∀ (ls : Array Slot) (H : Heap) (locs : List Loc), va_P g.1 vwCl (TW g t y sf wf sg) H → va_D A (TW g t y sf wf sg) → va_S A s.heap H locs → lv_has ls 4 [(3, .int (nI k)), (2, .int q), (0, .ref (t 0)), (1, .int (nI mn))] → W p l e (rmD 4) s m args below meth c H locs 0 0 (MQ below (QI g A ((pmsC cn sf wf sg mn z 0).2) (TW g t ((pmsC cn sf wf sg mn z 0).1) sf wf sg)) args s 0 0 A) (F0 m 4 ls []) from LP4 mn 0 z 0 (Nat.zero_add mn) hz rfl ls _ _ hP hD hS (lv_sub hl [0, 1, 2, 3] rfl)
  intro n
  induction n with
  | zero =>
    intro k y q hk hy ht ls H locs hP hD hS hl
    refine lv_iload_n hx hb dX3_passMinutes_4 rfl (lv_at hl 0 rfl) ?_
    refine lv_iload_n hx hb dX3_passMinutes_5 rfl (lv_at hl 3 rfl) ?_
    refine lv_icmp_ge (tgt := 22) hx hb dX3_passMinutes_6 (by decide) (fun c_1 => ?_) (fun q9 => absurd (show (nI mn) ≤ (nI k) from (nI_le (by omega) (by omega))) (show ¬ ((nI mn) ≤ (nI k)) from q9))
    refine lv_iload_n hx hb dX3_passMinutes_22 rfl (lv_at hl 1 rfl) ?_
    have E : (TW g t y sf wf sg : va_W) = TW g t (pmsC cn sf wf sg mn z 0).1 sf wf sg := by rw [← ht]; rfl
    exact x_iret X hr hlocks (pw E hP) (dw E hD) hS (by rw [← ht]; rfl) dX3_passMinutes_23
  | succ n ih =>
    intro k y q hk hy ht ls H locs hP hD hS hl
    refine lv_iload_n hx hb dX3_passMinutes_4 rfl (lv_at hl 0 rfl) ?_
    refine lv_iload_n hx hb dX3_passMinutes_5 rfl (lv_at hl 3 rfl) ?_
    refine lv_icmp_ge (tgt := 22) hx hb dX3_passMinutes_6 (by decide) (fun q9 => absurd q9 (show ¬ (nI mn) ≤ (nI k) from (nI_ge (by omega) (by omega)))) (fun c_2 => ?_)
    refine lv_iload_n hx hb dX3_passMinutes_9 rfl (lv_at hl 1 rfl) ?_
    refine lv_aload_n hx hb dX3_passMinutes_10 rfl (lv_at hl 2 rfl) ?_
    refine x_goI (wn := TW g t (minZ cn y sf wf sg) sf wf sg) (x_rV (As := []) X (c_X3_passMinute l g t y sf wf sg cn hc hy _) yf_X3_passMinute yi_X3_passMinute wM_X3_65 ⟨Nat.le_of_ble_eq_true rfl, Nat.le_of_ble_eq_true rfl⟩ hP hD (p_all _) 0 rfl rfl hl rfl rfl (Nat.le_of_ble_eq_true rfl) dX3_passMinutes_11 ⟨Nat.zero_le _, Nat.zero_le _⟩) hP hD hS hA (p_all _) (p_back _) (fun H locs hP hD hS => ?_)
    refine lv_iadd hx hb dX3_passMinutes_14 ?_
    refine lv_istore_n (lv' := [(2, .int (q + (minR sg y))), (3, .int (nI k)), (0, .ref (t 0)), (1, .int (nI mn))]) hx hb dX3_passMinutes_15 rfl hl (by decide) rfl (fun ls hl => ?_)
    refine lv_iinc (v := (nI (k + 1))) (lv' := [(3, .int (nI (k + 1))), (2, .int (q + (minR sg y))), (0, .ref (t 0)), (1, .int (nI mn))]) hx hb dX3_passMinutes_16 hl (k := 1) rfl (nI_1 _) (by decide) rfl (fun ls hl => ?_)
    refine lv_goto (tgt := 4) hx hb dX3_passMinutes_19 (by decide) ?_
    exact ih (k + 1) (minZ cn y sf wf sg) (q + minR sg y) (by omega) (by rw [minZ_7]; exact hy) ht ls _ _ hP hD hS (lv_sub hl [0, 1, 2, 3] rfl)

theorem k_X2_placeAt (l : Launch) (g : wG) (ka sa wa cn : Nat) (hc : cn ≤ 6) (sf wf : Nat → Int32) (cnt : Int32) (hcnt : cnt = nI cn) (h1 : 1 ≤ cn) (mi : Int32) : CtI l g 0 yX2_placeAt cX2_placeAt 4 (some .int) [.ref ka, .int mi] (KW g ka sa wa cnt sf wf) (nI (pa cn sf mi)) (KW g ka sa wa cnt sf wf) := by
  subst hcnt; exact c_X2_placeAt l g ka sa wa cn hc sf wf h1 mi
theorem k_X2_placeAt0 (l : Launch) (g : wG) (ka sa wa : Nat) (sf wf : Nat → Int32) (cnt : Int32) (hcnt : cnt = nI 0) (mi : Int32) : CtI l g 0 yX2_placeAt cX2_placeAt 4 (some .int) [.ref ka, .int mi] (KW g ka sa wa cnt sf wf) (0 - 1) (KW g ka sa wa cnt sf wf) := by
  subst hcnt; exact c_X2_placeAt0 l g ka sa wa sf wf mi
theorem k_X2_hasStart (l : Launch) (g : wG) (ka sa wa cn : Nat) (hc : cn ≤ 6) (sf wf : Nat → Int32) (cnt : Int32) (hcnt : cnt = nI cn) (x : Int32) : CtI l g 0 yX2_hasStart cX2_hasStart 3 (some .boolean) [.ref ka, .int x] (KW g ka sa wa cnt sf wf) (hsL sf x cn 0) (KW g ka sa wa cnt sf wf) := by
  subst hcnt; exact c_X2_hasStart l g ka sa wa cn hc sf wf x
theorem k_X2_errorOfAdding (l : Launch) (g : wG) (ka sa wa cn : Nat) (hc : cn ≤ 6) (sf wf : Nat → Int32) (cnt : Int32) (hcnt : cnt = nI cn) (x w : Int32) : CtI l g 1 yX2_errorOfAdding cX2_errorOfAdding 3 (some .int) [.ref ka, .int x, .int w] (KW g ka sa wa cnt sf wf) (eoa x w cn sf) (KW g ka sa wa cnt sf wf) := by
  subst hcnt; exact c_X2_errorOfAdding l g ka sa wa cn hc sf wf x w
theorem k_X2_add (l : Launch) (g : wG) (ka sa wa cn : Nat) (hc : cn < 6) (sf wf : Nat → Int32) (cnt : Int32) (hcnt : cnt = nI cn) (x w : Int32) : CtV l g 0 yX2_add cX2_add 4 none [.ref ka, .int x, .int w] (KW g ka sa wa cnt sf wf) (KW g ka sa wa (nI (cn + 1)) (adL x w cn sf wf).1 (adL x w cn sf wf).2) := by
  subst hcnt; exact c_X2_add l g ka sa wa cn hc sf wf x w
theorem k_X2_remove (l : Launch) (g : wG) (ka sa wa cn : Nat) (hc : cn ≤ 6) (sf wf : Nat → Int32) (cnt : Int32) (hcnt : cnt = nI cn) (x : Int32) : CtI l g 0 yX2_remove cX2_remove 5 (some .int) [.ref ka, .int x] (KW g ka sa wa cnt sf wf) (rmL x cn 0 0 0 sf wf).1 (KW g ka sa wa (nI (rmL x cn 0 0 0 sf wf).2.1) (rmL x cn 0 0 0 sf wf).2.2.1 (rmL x cn 0 0 0 sf wf).2.2.2) := by
  subst hcnt; exact c_X2_remove l g ka sa wa cn hc sf wf x
theorem k_X2_minutesToNext (l : Launch) (g : wG) (ka sa wa cn : Nat) (hc : cn ≤ 6) (sf wf : Nat → Int32) (cnt : Int32) (hcnt : cnt = nI cn) (mi : Int32) : CtI l g 1 yX2_minutesToNext cX2_minutesToNext 3 (some .int) [.ref ka, .int mi] (KW g ka sa wa cnt sf wf) (mtn cn sf mi) (KW g ka sa wa cnt sf wf) := by
  subst hcnt
  by_cases h2 : 2 ≤ cn
  · exact c_X2_minutesToNext l g ka sa wa cn hc sf wf h2 mi
  · exact c_X2_minutesToNext1 l g ka sa wa cn hc sf wf h2 mi
def tok (cn : Nat) (z sf wf : Nat → Int32) : Int32 := if cn = 0 then -1000 else fmodC (z 0 + wf (pa cn sf (jrem (z 0) 1440))) 720
set_option maxHeartbeats 4000000 in
set_option maxRecDepth 100000 in
theorem c_X3_timeOfKeeper1 (l : Launch) (g : wG) (t : Nat → Nat) (z sf wf sg : Nat → Int32) (cn : Nat) (hc : cn ≤ 6) (hz : z 7 = nI cn) (h0 : ¬ cn = 0) : CtI l g 1 yX3_timeOfKeeper cX3_timeOfKeeper 2 (some .int) [.ref (t 0)] (TW g t z sf wf sg) (tok cn z sf wf) (TW g t z sf wf sg) := by
  intro sz
  refine x_enter (Qc := fun A => QI g A (tok cn z sf wf) (TW g t z sf wf sg)) (by decide) (Nat.le_of_ble_eq_true rfl) ?_
  intro p e s m args below meth c X hr hlocks A hA hP hD hS ls hl
  obtain ⟨⟨hx, hb, hml, hown, hts⟩, hK, hN⟩ := id X
  have hl : lv_has ls 2 [(0, .ref (t 0))] := hl
  have h1 : 1 ≤ cn := by omega
  refine lv_aload_n hx hb dX3_timeOfKeeper_0 rfl (lv_at hl 0 rfl) ?_
  refine x_get (v := .ref (t 6)) X 0 1 in_X3 hP rfl rfl (by decide) wF_X3_20 rfl rfl dX3_timeOfKeeper_1 ?_
  refine lv_aload_n hx hb dX3_timeOfKeeper_4 rfl (lv_at hl 0 rfl) ?_
  refine x_goI (wn := TW g t z sf wf sg) (x_rV (As := []) X (c_X3_minuteOfDay l g t z sf wf sg  _) yf_X3_minuteOfDay yi_X3_minuteOfDay wM_X3_75 ⟨Nat.le_of_ble_eq_true rfl, Nat.le_of_ble_eq_true rfl⟩ hP hD (p_all _) 0 rfl rfl hl rfl rfl (Nat.le_of_ble_eq_true rfl) dX3_timeOfKeeper_5 ⟨Nat.zero_le _, Nat.zero_le _⟩) hP hD hS hA (p_all _) (p_back _) (fun H locs hP hD hS => ?_)
  refine x_goI (wn := TW g t z sf wf sg) (x_rV (As := [.int (jrem (z 0) 1440)]) X (k_X2_placeAt l g (t 6) (t 7) (t 8) cn hc sf wf (z 7) hz h1 (jrem (z 0) 1440) _) yf_X2_placeAt yi_X2_placeAt wM_X3_87 ⟨Nat.le_of_ble_eq_true rfl, Nat.le_of_ble_eq_true rfl⟩ hP hD (wo_perm (ws' := [_, _, _] ++ [_, _, _, _, _, _, _]) 10 [6, 7, 8, 0, 1, 2, 3, 4, 5, 9] rfl (by decide) rfl) 0 rfl rfl hl rfl rfl (Nat.le_of_ble_eq_true rfl) dX3_timeOfKeeper_8 ⟨Nat.zero_le _, Nat.zero_le _⟩) hP hD hS hA (wo_perm (ws' := [_, _, _] ++ [_, _, _, _, _, _, _]) 10 [6, 7, 8, 0, 1, 2, 3, 4, 5, 9] rfl (by decide) rfl) (wo_perm 10 [0, 1, 2, 3, 4, 5, 7, 8, 9, 6] rfl (by decide) rfl) (fun H locs hP hD hS => ?_)
  refine lv_istore_n (lv' := [(1, .int (nI (pa cn sf (jrem (z 0) 1440)))), (0, .ref (t 0))]) hx hb dX3_timeOfKeeper_11 rfl hl (by decide) rfl (fun ls hl => ?_)
  refine lv_iload_n hx hb dX3_timeOfKeeper_12 rfl (lv_at hl 0 rfl) ?_
  refine lv_if_ge (tgt := 20) hx hb dX3_timeOfKeeper_13 (by decide) (fun c_1 => ?_) (fun q9 => absurd (show 0 ≤ (nI (pa cn sf (jrem (z 0) 1440))) from (nI_pos' (by have := pa_lt h1 sf (jrem (z 0) 1440); omega))) (show ¬ (0 ≤ (nI (pa cn sf (jrem (z 0) 1440)))) from q9))
  refine lv_aload_n hx hb dX3_timeOfKeeper_20 rfl (lv_at hl 1 rfl) ?_
  refine x_get (v := .int (z 0)) X 0 3 in_X3 hP rfl rfl (by decide) wF_X3_47 rfl rfl dX3_timeOfKeeper_21 ?_
  refine lv_aload_n hx hb dX3_timeOfKeeper_24 rfl (lv_at hl 1 rfl) ?_
  refine x_get (v := .ref (t 6)) X 0 1 in_X3 hP rfl rfl (by decide) wF_X3_20 rfl rfl dX3_timeOfKeeper_25 ?_
  refine x_get (v := .ref (t 8)) X 6 1 in_X2 hP rfl rfl (by decide) wF_X3_90 rfl rfl dX3_timeOfKeeper_28 ?_
  refine lv_iload_n hx hb dX3_timeOfKeeper_31 rfl (lv_at hl 0 rfl) ?_
  refine x_iald (v := (wf (pa cn sf (jrem (z 0) 1440)))) X 8 (pa cn sf (jrem (z 0) 1440)) hP rfl rfl (Nat.lt_of_lt_of_le (pa_lt h1 _ _) hc) (Nat.le_of_ble_eq_true rfl) rfl dX3_timeOfKeeper_32 ?_
  refine lv_iadd hx hb dX3_timeOfKeeper_33 ?_
  refine lv_sipush (v := 720) hx hb dX3_timeOfKeeper_34 (by decide) ?_
  refine x_goI (wn := TW g t z sf wf sg) (x_rS (As := [.int ((z 0) + (wf (pa cn sf (jrem (z 0) 1440)))), .int 720]) X (c_J9_floorMod_7cf53 l g ((z 0) + (wf (pa cn sf (jrem (z 0) 1440)))) 720 (by decide) _) yf_J9_floorMod_7cf53 ys_J9_floorMod_7cf53 wM_X3_93 ⟨Nat.le_of_ble_eq_true rfl, Nat.le_of_ble_eq_true rfl⟩ hP hD (p_none _) hl rfl rfl (Nat.le_of_ble_eq_true rfl) dX3_timeOfKeeper_37 ⟨Nat.zero_le _, Nat.zero_le _⟩) hP hD hS hA (p_none _) (p_noneB _) (fun H locs hP hD hS => ?_)
  exact x_iret X hr hlocks hP hD hS (by simp only [tok, if_neg h0]) dX3_timeOfKeeper_40

set_option maxHeartbeats 4000000 in
set_option maxRecDepth 100000 in
theorem c_X3_timeOfKeeper0 (l : Launch) (g : wG) (t : Nat → Nat) (z sf wf sg : Nat → Int32) (hz : z 7 = nI 0) : CtI l g 1 yX3_timeOfKeeper cX3_timeOfKeeper 2 (some .int) [.ref (t 0)] (TW g t z sf wf sg) (tok 0 z sf wf) (TW g t z sf wf sg) := by
  intro sz
  refine x_enter (Qc := fun A => QI g A (tok 0 z sf wf) (TW g t z sf wf sg)) (by decide) (Nat.le_of_ble_eq_true rfl) ?_
  intro p e s m args below meth c X hr hlocks A hA hP hD hS ls hl
  obtain ⟨⟨hx, hb, hml, hown, hts⟩, hK, hN⟩ := id X
  have hl : lv_has ls 2 [(0, .ref (t 0))] := hl
  refine lv_aload_n hx hb dX3_timeOfKeeper_0 rfl (lv_at hl 0 rfl) ?_
  refine x_get (v := .ref (t 6)) X 0 1 in_X3 hP rfl rfl (by decide) wF_X3_20 rfl rfl dX3_timeOfKeeper_1 ?_
  refine lv_aload_n hx hb dX3_timeOfKeeper_4 rfl (lv_at hl 0 rfl) ?_
  refine x_goI (wn := TW g t z sf wf sg) (x_rV (As := []) X (c_X3_minuteOfDay l g t z sf wf sg  _) yf_X3_minuteOfDay yi_X3_minuteOfDay wM_X3_75 ⟨Nat.le_of_ble_eq_true rfl, Nat.le_of_ble_eq_true rfl⟩ hP hD (p_all _) 0 rfl rfl hl rfl rfl (Nat.le_of_ble_eq_true rfl) dX3_timeOfKeeper_5 ⟨Nat.zero_le _, Nat.zero_le _⟩) hP hD hS hA (p_all _) (p_back _) (fun H locs hP hD hS => ?_)
  refine x_goI (wn := TW g t z sf wf sg) (x_rV (As := [.int (jrem (z 0) 1440)]) X (k_X2_placeAt0 l g (t 6) (t 7) (t 8)  sf wf (z 7) hz (jrem (z 0) 1440) _) yf_X2_placeAt yi_X2_placeAt wM_X3_87 ⟨Nat.le_of_ble_eq_true rfl, Nat.le_of_ble_eq_true rfl⟩ hP hD (wo_perm (ws' := [_, _, _] ++ [_, _, _, _, _, _, _]) 10 [6, 7, 8, 0, 1, 2, 3, 4, 5, 9] rfl (by decide) rfl) 0 rfl rfl hl rfl rfl (Nat.le_of_ble_eq_true rfl) dX3_timeOfKeeper_8 ⟨Nat.zero_le _, Nat.zero_le _⟩) hP hD hS hA (wo_perm (ws' := [_, _, _] ++ [_, _, _, _, _, _, _]) 10 [6, 7, 8, 0, 1, 2, 3, 4, 5, 9] rfl (by decide) rfl) (wo_perm 10 [0, 1, 2, 3, 4, 5, 7, 8, 9, 6] rfl (by decide) rfl) (fun H locs hP hD hS => ?_)
  refine lv_istore_n (lv' := [(1, .int (0 - 1)), (0, .ref (t 0))]) hx hb dX3_timeOfKeeper_11 rfl hl (by decide) rfl (fun ls hl => ?_)
  refine lv_iload_n hx hb dX3_timeOfKeeper_12 rfl (lv_at hl 0 rfl) ?_
  refine lv_if_ge (tgt := 20) hx hb dX3_timeOfKeeper_13 (by decide) (fun q9 => absurd q9 (show ¬ 0 ≤ (0 - 1) from (by decide))) (fun c_1 => ?_)
  refine lv_sipush (v := (-1000)) hx hb dX3_timeOfKeeper_16 (by decide) ?_
  exact x_iret X hr hlocks hP hD hS rfl dX3_timeOfKeeper_19

theorem c_X3_timeOfKeeper (l : Launch) (g : wG) (t : Nat → Nat) (z sf wf sg : Nat → Int32) (cn : Nat) (hc : cn ≤ 6) (hz : z 7 = nI cn) : CtI l g 1 yX3_timeOfKeeper cX3_timeOfKeeper 2 (some .int) [.ref (t 0)] (TW g t z sf wf sg) (tok cn z sf wf) (TW g t z sf wf sg) := by
  by_cases h0 : cn = 0
  · subst h0; exact c_X3_timeOfKeeper0 l g t z sf wf sg hz
  · exact c_X3_timeOfKeeper1 l g t z sf wf sg cn hc hz h0
def shS (sg z : Nat → Int32) : Int32 := ((((z 4 + sg 0) + z 11) + z 18) + z 25) + z 32
def shC (sg z : Nat → Int32) : Nat → Int32 := upd (upd (upd (upd (upd (upd z 4 (if sg 2 ≤ shS sg z then 0 else shS sg z)) 5 (if sg 2 ≤ shS sg z then z 5 + 1 else z 5)) 8 (if sg 2 ≤ shS sg z then gbD (z 8) else z 8)) 15 (if sg 2 ≤ shS sg z then gbD (z 15) else z 15)) 22 (if sg 2 ≤ shS sg z then gbD (z 22) else z 22)) 29 (if sg 2 ≤ shS sg z then gbD (z 29) else z 29)
set_option maxHeartbeats 4000000 in
set_option maxRecDepth 100000 in
theorem c_X3_strainShaft (l : Launch) (g : wG) (t : Nat → Nat) (z sf wf sg : Nat → Int32) : CtV l g 2 yX3_strainShaft cX3_strainShaft 5 none [.ref (t 0)] (TW g t z sf wf sg) (TW g t (shC sg z) sf wf sg) := by
  intro sz
  refine x_enter (Qc := fun A => QV g A (TW g t (shC sg z) sf wf sg)) (by decide) (Nat.le_of_ble_eq_true rfl) ?_
  intro p e s m args below meth c X hr hlocks A hA hP hD hS ls hl
  obtain ⟨⟨hx, hb, hml, hown, hts⟩, hK, hN⟩ := id X
  have hl : lv_has ls 5 [(0, .ref (t 0))] := hl
  refine lv_aload_n hx hb dX3_strainShaft_0 rfl (lv_at hl 0 rfl) ?_
  refine lv_dup hx hb dX3_strainShaft_1 rfl ?_
  refine x_get (v := .int (z 4)) X 0 4 in_X3 hP rfl rfl (by decide) wF_X3_51 rfl rfl dX3_strainShaft_2 ?_
  refine lv_aload_n hx hb dX3_strainShaft_5 rfl (lv_at hl 0 rfl) ?_
  refine x_get (v := .ref (t 9)) X 0 2 in_X3 hP rfl rfl (by decide) wF_X3_24 rfl rfl dX3_strainShaft_6 ?_
  refine lv_iconst (v := 0) hx hb dX3_strainShaft_9 (by decide) ?_
  refine x_iald (v := (sg 0)) X 9 0 hP rfl rfl (by decide) (Nat.le_of_ble_eq_true rfl) rfl dX3_strainShaft_10 ?_
  refine lv_iadd hx hb dX3_strainShaft_11 ?_
  refine x_put (v := .int ((z 4) + (sg 0))) (ty0 := tyX3) (ws2 := TW g t (upd z 4 ((z 4) + (sg 0))) sf wf sg) X 0 4 in_X3 tyX3_ok nmX3 hP hD hS rfl rfl (by decide) wF_X3_51 rfl rfl rfl rfl (Nat.le_of_ble_eq_true rfl) rfl dX3_strainShaft_12 (fun H locs hP hD hS => ?_)
  refine lv_aload_n hx hb dX3_strainShaft_15 rfl (lv_at hl 0 rfl) ?_
  refine x_get (v := .ref (t 1)) X 0 0 in_X3 hP rfl rfl (by decide) wF_X3_11 rfl rfl dX3_strainShaft_16 ?_
  refine lv_astore_n (lv' := [(1, .ref (t 1)), (0, .ref (t 0))]) hx hb dX3_strainShaft_19 rfl hl (by decide) rfl (fun ls hl => ?_)
  refine lv_aload_n hx hb dX3_strainShaft_20 rfl (lv_at hl 0 rfl) ?_
  refine x_alen (v := 4) X 1 2 hP rfl rfl rfl dX3_strainShaft_21 ?_
  refine lv_istore_n (lv' := [(2, .int 4), (1, .ref (t 1)), (0, .ref (t 0))]) hx hb dX3_strainShaft_22 rfl hl (by decide) rfl (fun ls hl => ?_)
  refine lv_iconst (v := 0) hx hb dX3_strainShaft_23 (by decide) ?_
  refine lv_istore_n (lv' := [(3, .int 0), (2, .int 4), (1, .ref (t 1)), (0, .ref (t 0))]) hx hb dX3_strainShaft_24 rfl hl (by decide) rfl (fun ls hl => ?_)
  refine lv_iload_n hx hb dX3_strainShaft_25 rfl (lv_at hl 0 rfl) ?_
  refine lv_iload_n hx hb dX3_strainShaft_26 rfl (lv_at hl 1 rfl) ?_
  refine lv_icmp_ge (tgt := 55) hx hb dX3_strainShaft_27 (by decide) (fun q9 => absurd q9 (show ¬ (4 : Int32) ≤ (0 : Int32) from (by decide))) (fun c_1 => ?_)
  refine lv_aload_n hx hb dX3_strainShaft_30 rfl (lv_at hl 2 rfl) ?_
  refine lv_iload_n hx hb dX3_strainShaft_31 rfl (lv_at hl 0 rfl) ?_
  refine x_aald (v := .ref (t 2)) X 1 2 0 hP rfl rfl rfl (by decide) (Nat.le_of_ble_eq_true rfl) rfl dX3_strainShaft_32 ?_
  refine lv_astore (lv' := [(4, .ref (t 2)), (3, .int 0), (2, .int 4), (1, .ref (t 1)), (0, .ref (t 0))]) hx hb dX3_strainShaft_33 hl (by decide) rfl (fun ls hl => ?_)
  refine lv_aload_n hx hb dX3_strainShaft_35 rfl (lv_at hl 4 rfl) ?_
  refine lv_dup hx hb dX3_strainShaft_36 rfl ?_
  refine x_get (v := .int ((z 4) + (sg 0))) X 0 4 in_X3 hP rfl rfl (by decide) wF_X3_51 rfl rfl dX3_strainShaft_37 ?_
  refine lv_aload hx hb dX3_strainShaft_40 (lv_at hl 0 rfl) ?_
  refine x_get (v := .int (z 11)) X 2 3 in_X0 hP rfl rfl (by decide) wF_X3_81 rfl rfl dX3_strainShaft_42 ?_
  refine lv_iadd hx hb dX3_strainShaft_45 ?_
  refine x_put (v := .int (((z 4) + (sg 0)) + (z 11))) (ty0 := tyX3) (ws2 := TW g t (upd (upd z 4 ((z 4) + (sg 0))) 4 (((z 4) + (sg 0)) + (z 11))) sf wf sg) X 0 4 in_X3 tyX3_ok nmX3 hP hD hS rfl rfl (by decide) wF_X3_51 rfl rfl rfl rfl (Nat.le_of_ble_eq_true rfl) rfl dX3_strainShaft_46 (fun H locs hP hD hS => ?_)
  refine lv_iinc (v := 1) (lv' := [(3, .int 1), (4, .ref (t 2)), (2, .int 4), (1, .ref (t 1)), (0, .ref (t 0))]) hx hb dX3_strainShaft_49 hl (k := 1) rfl rfl (by decide) rfl (fun ls hl => ?_)
  refine lv_goto (tgt := 25) hx hb dX3_strainShaft_52 (by decide) ?_
  refine lv_iload_n hx hb dX3_strainShaft_25 rfl (lv_at hl 0 rfl) ?_
  refine lv_iload_n hx hb dX3_strainShaft_26 rfl (lv_at hl 2 rfl) ?_
  refine lv_icmp_ge (tgt := 55) hx hb dX3_strainShaft_27 (by decide) (fun q9 => absurd q9 (show ¬ (4 : Int32) ≤ (1 : Int32) from (by decide))) (fun c_2 => ?_)
  refine lv_aload_n hx hb dX3_strainShaft_30 rfl (lv_at hl 3 rfl) ?_
  refine lv_iload_n hx hb dX3_strainShaft_31 rfl (lv_at hl 0 rfl) ?_
  refine x_aald (v := .ref (t 3)) X 1 2 1 hP rfl rfl rfl (by decide) (Nat.le_of_ble_eq_true rfl) rfl dX3_strainShaft_32 ?_
  refine lv_astore (lv' := [(4, .ref (t 3)), (3, .int 1), (2, .int 4), (1, .ref (t 1)), (0, .ref (t 0))]) hx hb dX3_strainShaft_33 hl (by decide) rfl (fun ls hl => ?_)
  refine lv_aload_n hx hb dX3_strainShaft_35 rfl (lv_at hl 4 rfl) ?_
  refine lv_dup hx hb dX3_strainShaft_36 rfl ?_
  refine x_get (v := .int (((z 4) + (sg 0)) + (z 11))) X 0 4 in_X3 hP rfl rfl (by decide) wF_X3_51 rfl rfl dX3_strainShaft_37 ?_
  refine lv_aload hx hb dX3_strainShaft_40 (lv_at hl 0 rfl) ?_
  refine x_get (v := .int (z 18)) X 3 3 in_X0 hP rfl rfl (by decide) wF_X3_81 rfl rfl dX3_strainShaft_42 ?_
  refine lv_iadd hx hb dX3_strainShaft_45 ?_
  refine x_put (v := .int ((((z 4) + (sg 0)) + (z 11)) + (z 18))) (ty0 := tyX3) (ws2 := TW g t (upd (upd (upd z 4 ((z 4) + (sg 0))) 4 (((z 4) + (sg 0)) + (z 11))) 4 ((((z 4) + (sg 0)) + (z 11)) + (z 18))) sf wf sg) X 0 4 in_X3 tyX3_ok nmX3 hP hD hS rfl rfl (by decide) wF_X3_51 rfl rfl rfl rfl (Nat.le_of_ble_eq_true rfl) rfl dX3_strainShaft_46 (fun H locs hP hD hS => ?_)
  refine lv_iinc (v := 2) (lv' := [(3, .int 2), (4, .ref (t 3)), (2, .int 4), (1, .ref (t 1)), (0, .ref (t 0))]) hx hb dX3_strainShaft_49 hl (k := 1) rfl rfl (by decide) rfl (fun ls hl => ?_)
  refine lv_goto (tgt := 25) hx hb dX3_strainShaft_52 (by decide) ?_
  refine lv_iload_n hx hb dX3_strainShaft_25 rfl (lv_at hl 0 rfl) ?_
  refine lv_iload_n hx hb dX3_strainShaft_26 rfl (lv_at hl 2 rfl) ?_
  refine lv_icmp_ge (tgt := 55) hx hb dX3_strainShaft_27 (by decide) (fun q9 => absurd q9 (show ¬ (4 : Int32) ≤ (2 : Int32) from (by decide))) (fun c_3 => ?_)
  refine lv_aload_n hx hb dX3_strainShaft_30 rfl (lv_at hl 3 rfl) ?_
  refine lv_iload_n hx hb dX3_strainShaft_31 rfl (lv_at hl 0 rfl) ?_
  refine x_aald (v := .ref (t 4)) X 1 2 2 hP rfl rfl rfl (by decide) (Nat.le_of_ble_eq_true rfl) rfl dX3_strainShaft_32 ?_
  refine lv_astore (lv' := [(4, .ref (t 4)), (3, .int 2), (2, .int 4), (1, .ref (t 1)), (0, .ref (t 0))]) hx hb dX3_strainShaft_33 hl (by decide) rfl (fun ls hl => ?_)
  refine lv_aload_n hx hb dX3_strainShaft_35 rfl (lv_at hl 4 rfl) ?_
  refine lv_dup hx hb dX3_strainShaft_36 rfl ?_
  refine x_get (v := .int ((((z 4) + (sg 0)) + (z 11)) + (z 18))) X 0 4 in_X3 hP rfl rfl (by decide) wF_X3_51 rfl rfl dX3_strainShaft_37 ?_
  refine lv_aload hx hb dX3_strainShaft_40 (lv_at hl 0 rfl) ?_
  refine x_get (v := .int (z 25)) X 4 3 in_X0 hP rfl rfl (by decide) wF_X3_81 rfl rfl dX3_strainShaft_42 ?_
  refine lv_iadd hx hb dX3_strainShaft_45 ?_
  refine x_put (v := .int (((((z 4) + (sg 0)) + (z 11)) + (z 18)) + (z 25))) (ty0 := tyX3) (ws2 := TW g t (upd (upd (upd (upd z 4 ((z 4) + (sg 0))) 4 (((z 4) + (sg 0)) + (z 11))) 4 ((((z 4) + (sg 0)) + (z 11)) + (z 18))) 4 (((((z 4) + (sg 0)) + (z 11)) + (z 18)) + (z 25))) sf wf sg) X 0 4 in_X3 tyX3_ok nmX3 hP hD hS rfl rfl (by decide) wF_X3_51 rfl rfl rfl rfl (Nat.le_of_ble_eq_true rfl) rfl dX3_strainShaft_46 (fun H locs hP hD hS => ?_)
  refine lv_iinc (v := 3) (lv' := [(3, .int 3), (4, .ref (t 4)), (2, .int 4), (1, .ref (t 1)), (0, .ref (t 0))]) hx hb dX3_strainShaft_49 hl (k := 1) rfl rfl (by decide) rfl (fun ls hl => ?_)
  refine lv_goto (tgt := 25) hx hb dX3_strainShaft_52 (by decide) ?_
  refine lv_iload_n hx hb dX3_strainShaft_25 rfl (lv_at hl 0 rfl) ?_
  refine lv_iload_n hx hb dX3_strainShaft_26 rfl (lv_at hl 2 rfl) ?_
  refine lv_icmp_ge (tgt := 55) hx hb dX3_strainShaft_27 (by decide) (fun q9 => absurd q9 (show ¬ (4 : Int32) ≤ (3 : Int32) from (by decide))) (fun c_4 => ?_)
  refine lv_aload_n hx hb dX3_strainShaft_30 rfl (lv_at hl 3 rfl) ?_
  refine lv_iload_n hx hb dX3_strainShaft_31 rfl (lv_at hl 0 rfl) ?_
  refine x_aald (v := .ref (t 5)) X 1 2 3 hP rfl rfl rfl (by decide) (Nat.le_of_ble_eq_true rfl) rfl dX3_strainShaft_32 ?_
  refine lv_astore (lv' := [(4, .ref (t 5)), (3, .int 3), (2, .int 4), (1, .ref (t 1)), (0, .ref (t 0))]) hx hb dX3_strainShaft_33 hl (by decide) rfl (fun ls hl => ?_)
  refine lv_aload_n hx hb dX3_strainShaft_35 rfl (lv_at hl 4 rfl) ?_
  refine lv_dup hx hb dX3_strainShaft_36 rfl ?_
  refine x_get (v := .int (((((z 4) + (sg 0)) + (z 11)) + (z 18)) + (z 25))) X 0 4 in_X3 hP rfl rfl (by decide) wF_X3_51 rfl rfl dX3_strainShaft_37 ?_
  refine lv_aload hx hb dX3_strainShaft_40 (lv_at hl 0 rfl) ?_
  refine x_get (v := .int (z 32)) X 5 3 in_X0 hP rfl rfl (by decide) wF_X3_81 rfl rfl dX3_strainShaft_42 ?_
  refine lv_iadd hx hb dX3_strainShaft_45 ?_
  refine x_put (v := .int ((((((z 4) + (sg 0)) + (z 11)) + (z 18)) + (z 25)) + (z 32))) (ty0 := tyX3) (ws2 := TW g t (upd (upd (upd (upd (upd z 4 ((z 4) + (sg 0))) 4 (((z 4) + (sg 0)) + (z 11))) 4 ((((z 4) + (sg 0)) + (z 11)) + (z 18))) 4 (((((z 4) + (sg 0)) + (z 11)) + (z 18)) + (z 25))) 4 ((((((z 4) + (sg 0)) + (z 11)) + (z 18)) + (z 25)) + (z 32))) sf wf sg) X 0 4 in_X3 tyX3_ok nmX3 hP hD hS rfl rfl (by decide) wF_X3_51 rfl rfl rfl rfl (Nat.le_of_ble_eq_true rfl) rfl dX3_strainShaft_46 (fun H locs hP hD hS => ?_)
  refine lv_iinc (v := 4) (lv' := [(3, .int 4), (4, .ref (t 5)), (2, .int 4), (1, .ref (t 1)), (0, .ref (t 0))]) hx hb dX3_strainShaft_49 hl (k := 1) rfl rfl (by decide) rfl (fun ls hl => ?_)
  refine lv_goto (tgt := 25) hx hb dX3_strainShaft_52 (by decide) ?_
  refine lv_iload_n hx hb dX3_strainShaft_25 rfl (lv_at hl 0 rfl) ?_
  refine lv_iload_n hx hb dX3_strainShaft_26 rfl (lv_at hl 2 rfl) ?_
  refine lv_icmp_ge (tgt := 55) hx hb dX3_strainShaft_27 (by decide) (fun c_5 => ?_) (fun q9 => absurd (show (4 : Int32) ≤ (4 : Int32) from (by decide)) (show ¬ ((4 : Int32) ≤ (4 : Int32)) from q9))
  refine lv_aload_n hx hb dX3_strainShaft_55 rfl (lv_at hl 4 rfl) ?_
  refine x_get (v := .int ((((((z 4) + (sg 0)) + (z 11)) + (z 18)) + (z 25)) + (z 32))) X 0 4 in_X3 hP rfl rfl (by decide) wF_X3_51 rfl rfl dX3_strainShaft_56 ?_
  refine lv_aload_n hx hb dX3_strainShaft_59 rfl (lv_at hl 4 rfl) ?_
  refine x_get (v := .ref (t 9)) X 0 2 in_X3 hP rfl rfl (by decide) wF_X3_24 rfl rfl dX3_strainShaft_60 ?_
  refine lv_iconst (v := 2) hx hb dX3_strainShaft_63 (by decide) ?_
  refine x_iald (v := (sg 2)) X 9 2 hP rfl rfl (by decide) (Nat.le_of_ble_eq_true rfl) rfl dX3_strainShaft_64 ?_
  refine lv_icmp_ge (tgt := 69) hx hb dX3_strainShaft_65 (by decide) (fun (c_6 : (sg 2) ≤ ((((((z 4) + (sg 0)) + (z 11)) + (z 18)) + (z 25)) + (z 32))) => ?_) (fun (c_6 : ¬ (sg 2) ≤ ((((((z 4) + (sg 0)) + (z 11)) + (z 18)) + (z 25)) + (z 32))) => ?_)
  · refine lv_aload_n hx hb dX3_strainShaft_69 rfl (lv_at hl 4 rfl) ?_
    refine lv_iconst (v := 0) hx hb dX3_strainShaft_70 (by decide) ?_
    refine x_put (v := .int 0) (ty0 := tyX3) (ws2 := TW g t (upd (upd (upd (upd (upd (upd z 4 ((z 4) + (sg 0))) 4 (((z 4) + (sg 0)) + (z 11))) 4 ((((z 4) + (sg 0)) + (z 11)) + (z 18))) 4 (((((z 4) + (sg 0)) + (z 11)) + (z 18)) + (z 25))) 4 ((((((z 4) + (sg 0)) + (z 11)) + (z 18)) + (z 25)) + (z 32))) 4 0) sf wf sg) X 0 4 in_X3 tyX3_ok nmX3 hP hD hS rfl rfl (by decide) wF_X3_51 rfl rfl rfl rfl (Nat.le_of_ble_eq_true rfl) rfl dX3_strainShaft_71 (fun H locs hP hD hS => ?_)
    refine lv_aload_n hx hb dX3_strainShaft_74 rfl (lv_at hl 4 rfl) ?_
    refine lv_dup hx hb dX3_strainShaft_75 rfl ?_
    refine x_get (v := .int (z 5)) X 0 5 in_X3 hP rfl rfl (by decide) wF_X3_54 rfl rfl dX3_strainShaft_76 ?_
    refine lv_iconst (v := 1) hx hb dX3_strainShaft_79 (by decide) ?_
    refine lv_iadd hx hb dX3_strainShaft_80 ?_
    refine x_put (v := .int ((z 5) + 1)) (ty0 := tyX3) (ws2 := TW g t (upd (upd (upd (upd (upd (upd (upd z 4 ((z 4) + (sg 0))) 4 (((z 4) + (sg 0)) + (z 11))) 4 ((((z 4) + (sg 0)) + (z 11)) + (z 18))) 4 (((((z 4) + (sg 0)) + (z 11)) + (z 18)) + (z 25))) 4 ((((((z 4) + (sg 0)) + (z 11)) + (z 18)) + (z 25)) + (z 32))) 4 0) 5 ((z 5) + 1)) sf wf sg) X 0 5 in_X3 tyX3_ok nmX3 hP hD hS rfl rfl (by decide) wF_X3_54 rfl rfl rfl rfl (Nat.le_of_ble_eq_true rfl) rfl dX3_strainShaft_81 (fun H locs hP hD hS => ?_)
    refine lv_aload_n hx hb dX3_strainShaft_84 rfl (lv_at hl 4 rfl) ?_
    refine x_get (v := .ref (t 1)) X 0 0 in_X3 hP rfl rfl (by decide) wF_X3_11 rfl rfl dX3_strainShaft_85 ?_
    refine lv_astore_n (lv' := [(1, .ref (t 1)), (3, .int 4), (4, .ref (t 5)), (2, .int 4), (0, .ref (t 0))]) hx hb dX3_strainShaft_88 rfl hl (by decide) rfl (fun ls hl => ?_)
    refine lv_aload_n hx hb dX3_strainShaft_89 rfl (lv_at hl 0 rfl) ?_
    refine x_alen (v := 4) X 1 2 hP rfl rfl rfl dX3_strainShaft_90 ?_
    refine lv_istore_n (lv' := [(2, .int 4), (1, .ref (t 1)), (3, .int 4), (4, .ref (t 5)), (0, .ref (t 0))]) hx hb dX3_strainShaft_91 rfl hl (by decide) rfl (fun ls hl => ?_)
    refine lv_iconst (v := 0) hx hb dX3_strainShaft_92 (by decide) ?_
    refine lv_istore_n (lv' := [(3, .int 0), (2, .int 4), (1, .ref (t 1)), (4, .ref (t 5)), (0, .ref (t 0))]) hx hb dX3_strainShaft_93 rfl hl (by decide) rfl (fun ls hl => ?_)
    refine lv_iload_n hx hb dX3_strainShaft_94 rfl (lv_at hl 0 rfl) ?_
    refine lv_iload_n hx hb dX3_strainShaft_95 rfl (lv_at hl 1 rfl) ?_
    refine lv_icmp_ge (tgt := 115) hx hb dX3_strainShaft_96 (by decide) (fun q9 => absurd q9 (show ¬ (4 : Int32) ≤ (0 : Int32) from (by decide))) (fun c_7 => ?_)
    refine lv_aload_n hx hb dX3_strainShaft_99 rfl (lv_at hl 2 rfl) ?_
    refine lv_iload_n hx hb dX3_strainShaft_100 rfl (lv_at hl 0 rfl) ?_
    refine x_aald (v := .ref (t 2)) X 1 2 0 hP rfl rfl rfl (by decide) (Nat.le_of_ble_eq_true rfl) rfl dX3_strainShaft_101 ?_
    refine lv_astore (lv' := [(4, .ref (t 2)), (3, .int 0), (2, .int 4), (1, .ref (t 1)), (0, .ref (t 0))]) hx hb dX3_strainShaft_102 hl (by decide) rfl (fun ls hl => ?_)
    refine lv_aload hx hb dX3_strainShaft_104 (lv_at hl 0 rfl) ?_
    refine x_goV (wn := TW g t (upd (upd (upd (upd (upd (upd (upd (upd z 4 ((z 4) + (sg 0))) 4 (((z 4) + (sg 0)) + (z 11))) 4 ((((z 4) + (sg 0)) + (z 11)) + (z 18))) 4 (((((z 4) + (sg 0)) + (z 11)) + (z 18)) + (z 25))) 4 ((((((z 4) + (sg 0)) + (z 11)) + (z 18)) + (z 25)) + (z 32))) 4 0) 5 ((z 5) + 1)) 8 (gbD (z 8))) sf wf sg) (x_rV (As := []) X (c_X0_goBack l g (t 2) (z 8) (z 9) (z 10) (z 11) (z 12) (z 13) (z 14) _) yf_X0_goBack yi_X0_goBack wM_X3_84 ⟨Nat.le_of_ble_eq_true rfl, Nat.le_of_ble_eq_true rfl⟩ hP hD (wo_perm (ws' := [_] ++ [_, _, _, _, _, _, _, _, _]) 10 [2, 0, 1, 3, 4, 5, 6, 7, 8, 9] rfl (by decide) rfl) 0 rfl rfl hl rfl rfl (Nat.le_of_ble_eq_true rfl) dX3_strainShaft_106 ⟨Nat.zero_le _, Nat.zero_le _⟩) hP hD hS hA (wo_perm (ws' := [_] ++ [_, _, _, _, _, _, _, _, _]) 10 [2, 0, 1, 3, 4, 5, 6, 7, 8, 9] rfl (by decide) rfl) (wo_perm 10 [0, 1, 9, 2, 3, 4, 5, 6, 7, 8] rfl (by decide) rfl) (fun H locs hP hD hS => ?_)
    refine lv_iinc (v := 1) (lv' := [(3, .int 1), (4, .ref (t 2)), (2, .int 4), (1, .ref (t 1)), (0, .ref (t 0))]) hx hb dX3_strainShaft_109 hl (k := 1) rfl rfl (by decide) rfl (fun ls hl => ?_)
    refine lv_goto (tgt := 94) hx hb dX3_strainShaft_112 (by decide) ?_
    refine lv_iload_n hx hb dX3_strainShaft_94 rfl (lv_at hl 0 rfl) ?_
    refine lv_iload_n hx hb dX3_strainShaft_95 rfl (lv_at hl 2 rfl) ?_
    refine lv_icmp_ge (tgt := 115) hx hb dX3_strainShaft_96 (by decide) (fun q9 => absurd q9 (show ¬ (4 : Int32) ≤ (1 : Int32) from (by decide))) (fun c_8 => ?_)
    refine lv_aload_n hx hb dX3_strainShaft_99 rfl (lv_at hl 3 rfl) ?_
    refine lv_iload_n hx hb dX3_strainShaft_100 rfl (lv_at hl 0 rfl) ?_
    refine x_aald (v := .ref (t 3)) X 1 2 1 hP rfl rfl rfl (by decide) (Nat.le_of_ble_eq_true rfl) rfl dX3_strainShaft_101 ?_
    refine lv_astore (lv' := [(4, .ref (t 3)), (3, .int 1), (2, .int 4), (1, .ref (t 1)), (0, .ref (t 0))]) hx hb dX3_strainShaft_102 hl (by decide) rfl (fun ls hl => ?_)
    refine lv_aload hx hb dX3_strainShaft_104 (lv_at hl 0 rfl) ?_
    refine x_goV (wn := TW g t (upd (upd (upd (upd (upd (upd (upd (upd (upd z 4 ((z 4) + (sg 0))) 4 (((z 4) + (sg 0)) + (z 11))) 4 ((((z 4) + (sg 0)) + (z 11)) + (z 18))) 4 (((((z 4) + (sg 0)) + (z 11)) + (z 18)) + (z 25))) 4 ((((((z 4) + (sg 0)) + (z 11)) + (z 18)) + (z 25)) + (z 32))) 4 0) 5 ((z 5) + 1)) 8 (gbD (z 8))) 15 (gbD (z 15))) sf wf sg) (x_rV (As := []) X (c_X0_goBack l g (t 3) (z 15) (z 16) (z 17) (z 18) (z 19) (z 20) (z 21) _) yf_X0_goBack yi_X0_goBack wM_X3_84 ⟨Nat.le_of_ble_eq_true rfl, Nat.le_of_ble_eq_true rfl⟩ hP hD (wo_perm (ws' := [_] ++ [_, _, _, _, _, _, _, _, _]) 10 [3, 0, 1, 2, 4, 5, 6, 7, 8, 9] rfl (by decide) rfl) 0 rfl rfl hl rfl rfl (Nat.le_of_ble_eq_true rfl) dX3_strainShaft_106 ⟨Nat.zero_le _, Nat.zero_le _⟩) hP hD hS hA (wo_perm (ws' := [_] ++ [_, _, _, _, _, _, _, _, _]) 10 [3, 0, 1, 2, 4, 5, 6, 7, 8, 9] rfl (by decide) rfl) (wo_perm 10 [0, 1, 2, 9, 3, 4, 5, 6, 7, 8] rfl (by decide) rfl) (fun H locs hP hD hS => ?_)
    refine lv_iinc (v := 2) (lv' := [(3, .int 2), (4, .ref (t 3)), (2, .int 4), (1, .ref (t 1)), (0, .ref (t 0))]) hx hb dX3_strainShaft_109 hl (k := 1) rfl rfl (by decide) rfl (fun ls hl => ?_)
    refine lv_goto (tgt := 94) hx hb dX3_strainShaft_112 (by decide) ?_
    refine lv_iload_n hx hb dX3_strainShaft_94 rfl (lv_at hl 0 rfl) ?_
    refine lv_iload_n hx hb dX3_strainShaft_95 rfl (lv_at hl 2 rfl) ?_
    refine lv_icmp_ge (tgt := 115) hx hb dX3_strainShaft_96 (by decide) (fun q9 => absurd q9 (show ¬ (4 : Int32) ≤ (2 : Int32) from (by decide))) (fun c_9 => ?_)
    refine lv_aload_n hx hb dX3_strainShaft_99 rfl (lv_at hl 3 rfl) ?_
    refine lv_iload_n hx hb dX3_strainShaft_100 rfl (lv_at hl 0 rfl) ?_
    refine x_aald (v := .ref (t 4)) X 1 2 2 hP rfl rfl rfl (by decide) (Nat.le_of_ble_eq_true rfl) rfl dX3_strainShaft_101 ?_
    refine lv_astore (lv' := [(4, .ref (t 4)), (3, .int 2), (2, .int 4), (1, .ref (t 1)), (0, .ref (t 0))]) hx hb dX3_strainShaft_102 hl (by decide) rfl (fun ls hl => ?_)
    refine lv_aload hx hb dX3_strainShaft_104 (lv_at hl 0 rfl) ?_
    refine x_goV (wn := TW g t (upd (upd (upd (upd (upd (upd (upd (upd (upd (upd z 4 ((z 4) + (sg 0))) 4 (((z 4) + (sg 0)) + (z 11))) 4 ((((z 4) + (sg 0)) + (z 11)) + (z 18))) 4 (((((z 4) + (sg 0)) + (z 11)) + (z 18)) + (z 25))) 4 ((((((z 4) + (sg 0)) + (z 11)) + (z 18)) + (z 25)) + (z 32))) 4 0) 5 ((z 5) + 1)) 8 (gbD (z 8))) 15 (gbD (z 15))) 22 (gbD (z 22))) sf wf sg) (x_rV (As := []) X (c_X0_goBack l g (t 4) (z 22) (z 23) (z 24) (z 25) (z 26) (z 27) (z 28) _) yf_X0_goBack yi_X0_goBack wM_X3_84 ⟨Nat.le_of_ble_eq_true rfl, Nat.le_of_ble_eq_true rfl⟩ hP hD (wo_perm (ws' := [_] ++ [_, _, _, _, _, _, _, _, _]) 10 [4, 0, 1, 2, 3, 5, 6, 7, 8, 9] rfl (by decide) rfl) 0 rfl rfl hl rfl rfl (Nat.le_of_ble_eq_true rfl) dX3_strainShaft_106 ⟨Nat.zero_le _, Nat.zero_le _⟩) hP hD hS hA (wo_perm (ws' := [_] ++ [_, _, _, _, _, _, _, _, _]) 10 [4, 0, 1, 2, 3, 5, 6, 7, 8, 9] rfl (by decide) rfl) (wo_perm 10 [0, 1, 2, 3, 9, 4, 5, 6, 7, 8] rfl (by decide) rfl) (fun H locs hP hD hS => ?_)
    refine lv_iinc (v := 3) (lv' := [(3, .int 3), (4, .ref (t 4)), (2, .int 4), (1, .ref (t 1)), (0, .ref (t 0))]) hx hb dX3_strainShaft_109 hl (k := 1) rfl rfl (by decide) rfl (fun ls hl => ?_)
    refine lv_goto (tgt := 94) hx hb dX3_strainShaft_112 (by decide) ?_
    refine lv_iload_n hx hb dX3_strainShaft_94 rfl (lv_at hl 0 rfl) ?_
    refine lv_iload_n hx hb dX3_strainShaft_95 rfl (lv_at hl 2 rfl) ?_
    refine lv_icmp_ge (tgt := 115) hx hb dX3_strainShaft_96 (by decide) (fun q9 => absurd q9 (show ¬ (4 : Int32) ≤ (3 : Int32) from (by decide))) (fun c_10 => ?_)
    refine lv_aload_n hx hb dX3_strainShaft_99 rfl (lv_at hl 3 rfl) ?_
    refine lv_iload_n hx hb dX3_strainShaft_100 rfl (lv_at hl 0 rfl) ?_
    refine x_aald (v := .ref (t 5)) X 1 2 3 hP rfl rfl rfl (by decide) (Nat.le_of_ble_eq_true rfl) rfl dX3_strainShaft_101 ?_
    refine lv_astore (lv' := [(4, .ref (t 5)), (3, .int 3), (2, .int 4), (1, .ref (t 1)), (0, .ref (t 0))]) hx hb dX3_strainShaft_102 hl (by decide) rfl (fun ls hl => ?_)
    refine lv_aload hx hb dX3_strainShaft_104 (lv_at hl 0 rfl) ?_
    refine x_goV (wn := TW g t (upd (upd (upd (upd (upd (upd (upd (upd (upd (upd (upd z 4 ((z 4) + (sg 0))) 4 (((z 4) + (sg 0)) + (z 11))) 4 ((((z 4) + (sg 0)) + (z 11)) + (z 18))) 4 (((((z 4) + (sg 0)) + (z 11)) + (z 18)) + (z 25))) 4 ((((((z 4) + (sg 0)) + (z 11)) + (z 18)) + (z 25)) + (z 32))) 4 0) 5 ((z 5) + 1)) 8 (gbD (z 8))) 15 (gbD (z 15))) 22 (gbD (z 22))) 29 (gbD (z 29))) sf wf sg) (x_rV (As := []) X (c_X0_goBack l g (t 5) (z 29) (z 30) (z 31) (z 32) (z 33) (z 34) (z 35) _) yf_X0_goBack yi_X0_goBack wM_X3_84 ⟨Nat.le_of_ble_eq_true rfl, Nat.le_of_ble_eq_true rfl⟩ hP hD (wo_perm (ws' := [_] ++ [_, _, _, _, _, _, _, _, _]) 10 [5, 0, 1, 2, 3, 4, 6, 7, 8, 9] rfl (by decide) rfl) 0 rfl rfl hl rfl rfl (Nat.le_of_ble_eq_true rfl) dX3_strainShaft_106 ⟨Nat.zero_le _, Nat.zero_le _⟩) hP hD hS hA (wo_perm (ws' := [_] ++ [_, _, _, _, _, _, _, _, _]) 10 [5, 0, 1, 2, 3, 4, 6, 7, 8, 9] rfl (by decide) rfl) (wo_perm 10 [0, 1, 2, 3, 4, 9, 5, 6, 7, 8] rfl (by decide) rfl) (fun H locs hP hD hS => ?_)
    refine lv_iinc (v := 4) (lv' := [(3, .int 4), (4, .ref (t 5)), (2, .int 4), (1, .ref (t 1)), (0, .ref (t 0))]) hx hb dX3_strainShaft_109 hl (k := 1) rfl rfl (by decide) rfl (fun ls hl => ?_)
    refine lv_goto (tgt := 94) hx hb dX3_strainShaft_112 (by decide) ?_
    refine lv_iload_n hx hb dX3_strainShaft_94 rfl (lv_at hl 0 rfl) ?_
    refine lv_iload_n hx hb dX3_strainShaft_95 rfl (lv_at hl 2 rfl) ?_
    refine lv_icmp_ge (tgt := 115) hx hb dX3_strainShaft_96 (by decide) (fun c_11 => ?_) (fun q9 => absurd (show (4 : Int32) ≤ (4 : Int32) from (by decide)) (show ¬ ((4 : Int32) ≤ (4 : Int32)) from q9))
    have E : (TW g t (upd (upd (upd (upd (upd (upd (upd (upd (upd (upd (upd z 4 ((z 4) + (sg 0))) 4 (((z 4) + (sg 0)) + (z 11))) 4 ((((z 4) + (sg 0)) + (z 11)) + (z 18))) 4 (((((z 4) + (sg 0)) + (z 11)) + (z 18)) + (z 25))) 4 ((((((z 4) + (sg 0)) + (z 11)) + (z 18)) + (z 25)) + (z 32))) 4 0) 5 ((z 5) + 1)) 8 (gbD (z 8))) 15 (gbD (z 15))) 22 (gbD (z 22))) 29 (gbD (z 29))) sf wf sg : va_W) = (TW g t (shC sg z) sf wf sg) := by (have c_6a : sg 2 ≤ shS sg z := c_6; simp only [shC, if_pos c_6a]) <;> rfl
    exact x_vret X hr hlocks (pw E hP) (dw E hD) hS dX3_strainShaft_115
  · have E : (TW g t (upd (upd (upd (upd (upd z 4 ((z 4) + (sg 0))) 4 (((z 4) + (sg 0)) + (z 11))) 4 ((((z 4) + (sg 0)) + (z 11)) + (z 18))) 4 (((((z 4) + (sg 0)) + (z 11)) + (z 18)) + (z 25))) 4 ((((((z 4) + (sg 0)) + (z 11)) + (z 18)) + (z 25)) + (z 32))) sf wf sg : va_W) = (TW g t (shC sg z) sf wf sg) := by (have c_6a : ¬ sg 2 ≤ shS sg z := c_6; simp only [shC, if_neg c_6a]) <;> rfl
    exact x_vret X hr hlocks (pw E hP) (dw E hD) hS dX3_strainShaft_68

theorem isw_in {a b k : Nat} (h1 : a ≤ k) (h2 : k ≤ b) (hb : b < 2 ^ 31) : isw (nI k) (nI a) (nI b) = 1 := by
  unfold isw
  rw [if_neg (nI_nlt h1 (by omega)), if_neg (nI_nlt h2 hb)]
set_option maxHeartbeats 4000000 in
set_option maxRecDepth 100000 in
theorem c_X3_faceAt (l : Launch) (g : wG) (t : Nat → Nat) (z sf wf sg : Nat → Int32) (k : Nat) (hk : k < 4) : CtQ l g 1 yX3_faceAt cX3_faceAt 2 (some (.object "TowerFaces$Face")) [.ref (t 0), .int (nI k)] (TW g t z sf wf sg) (some (t (2 + k))) (TW g t z sf wf sg) := by
  intro sz
  refine x_enter (Qc := fun A => QQ g A (some (t (2 + k))) (TW g t z sf wf sg)) (by decide) (Nat.le_of_ble_eq_true rfl) ?_
  intro p e s m args below meth c X hr hlocks A hA hP hD hS ls hl
  obtain ⟨⟨hx, hb, hml, hown, hts⟩, hK, hN⟩ := id X
  have hl : lv_has ls 2 [(0, .ref (t 0)), (1, .int (nI k))] := hl
  refine lv_iload_n hx hb dX3_faceAt_0 rfl (lv_at hl 1 rfl) ?_
  refine lv_iconst (v := 0) hx hb dX3_faceAt_1 (by decide) ?_
  refine lv_iconst (v := 3) hx hb dX3_faceAt_2 (by decide) ?_
  refine x_goI (wn := TW g t z sf wf sg) (x_rN (As := [.int (nI k), .int 0, .int 3]) X (c_X5_isWithin l g (nI k) 0 3 _) yf_X5_isWithin ys_X5_isWithin hN.1 ⟨Nat.le_of_ble_eq_true rfl, Nat.le_of_ble_eq_true rfl⟩ hP hD (p_none _) hl rfl rfl (Nat.le_of_ble_eq_true rfl) dX3_faceAt_3 ⟨Nat.zero_le _, Nat.zero_le _⟩) hP hD hS hA (p_none _) (p_noneB _) (fun H locs hP hD hS => ?_)
  refine lv_if_eq (tgt := 18) hx hb dX3_faceAt_6 (by decide) (fun q9 => absurd q9 (show ¬ (isw (nI k) 0 3) = 0 from (show ¬ isw (nI k) (nI 0) (nI 3) = 0 from by rw [isw_in (Nat.zero_le k) (by omega) (by decide)]; decide))) (fun c_1 => ?_)
  refine lv_aload_n hx hb dX3_faceAt_9 rfl (lv_at hl 0 rfl) ?_
  refine x_get (v := .ref (t 1)) X 0 0 in_X3 hP rfl rfl (by decide) wF_X3_11 rfl rfl dX3_faceAt_10 ?_
  refine lv_iload_n hx hb dX3_faceAt_13 rfl (lv_at hl 1 rfl) ?_
  refine x_aald (v := .ref (t (2 + k))) X 1 2 k hP rfl rfl rfl (by omega) (Nat.le_of_ble_eq_true rfl) rfl dX3_faceAt_14 ?_
  refine lv_goto (tgt := 19) hx hb dX3_faceAt_15 (by decide) ?_
  exact x_aret X hr hlocks hP hD hS rfl dX3_faceAt_19

set_option maxHeartbeats 4000000 in
set_option maxRecDepth 100000 in
theorem c_X3_faceAtN (l : Launch) (g : wG) (t : Nat → Nat) (z sf wf sg : Nat → Int32) (i : Int32) (hi : isw i 0 3 = 0) : CtQ l g 1 yX3_faceAt cX3_faceAt 2 (some (.object "TowerFaces$Face")) [.ref (t 0), .int i] (TW g t z sf wf sg) none (TW g t z sf wf sg) := by
  intro sz
  refine x_enter (Qc := fun A => QQ g A none (TW g t z sf wf sg)) (by decide) (Nat.le_of_ble_eq_true rfl) ?_
  intro p e s m args below meth c X hr hlocks A hA hP hD hS ls hl
  obtain ⟨⟨hx, hb, hml, hown, hts⟩, hK, hN⟩ := id X
  have hl : lv_has ls 2 [(0, .ref (t 0)), (1, .int i)] := hl
  refine lv_iload_n hx hb dX3_faceAt_0 rfl (lv_at hl 1 rfl) ?_
  refine lv_iconst (v := 0) hx hb dX3_faceAt_1 (by decide) ?_
  refine lv_iconst (v := 3) hx hb dX3_faceAt_2 (by decide) ?_
  refine x_goI (wn := TW g t z sf wf sg) (x_rN (As := [.int i, .int 0, .int 3]) X (c_X5_isWithin l g i 0 3 _) yf_X5_isWithin ys_X5_isWithin hN.1 ⟨Nat.le_of_ble_eq_true rfl, Nat.le_of_ble_eq_true rfl⟩ hP hD (p_none _) hl rfl rfl (Nat.le_of_ble_eq_true rfl) dX3_faceAt_3 ⟨Nat.zero_le _, Nat.zero_le _⟩) hP hD hS hA (p_none _) (p_noneB _) (fun H locs hP hD hS => ?_)
  refine lv_if_eq (tgt := 18) hx hb dX3_faceAt_6 (by decide) (fun c_1 => ?_) (fun q9 => absurd (show (isw i 0 3) = 0 from hi) (show ¬ ((isw i 0 3) = 0) from q9))
  refine lv_null hx hb dX3_faceAt_18 ?_
  exact x_aret X hr hlocks hP hD hS rfl dX3_faceAt_19

set_option maxHeartbeats 4000000 in
set_option maxRecDepth 100000 in
theorem c_X3_minuteOfDay (l : Launch) (g : wG) (t : Nat → Nat) (z sf wf sg : Nat → Int32) : CtI l g 0 yX3_minuteOfDay cX3_minuteOfDay 1 (some .int) [.ref (t 0)] (TW g t z sf wf sg) (jrem (z 0) 1440) (TW g t z sf wf sg) := by
  intro sz
  refine x_enter (Qc := fun A => QI g A (jrem (z 0) 1440) (TW g t z sf wf sg)) (by decide) (Nat.le_of_ble_eq_true rfl) ?_
  intro p e s m args below meth c X hr hlocks A hA hP hD hS ls hl
  obtain ⟨⟨hx, hb, hml, hown, hts⟩, hK, hN⟩ := id X
  have hl : lv_has ls 1 [(0, .ref (t 0))] := hl
  refine lv_aload_n hx hb dX3_minuteOfDay_0 rfl (lv_at hl 0 rfl) ?_
  refine x_get (v := .int (z 0)) X 0 3 in_X3 hP rfl rfl (by decide) wF_X3_47 rfl rfl dX3_minuteOfDay_1 ?_
  refine lv_sipush (v := 1440) hx hb dX3_minuteOfDay_4 (by decide) ?_
  refine lv_irem hx hb dX3_minuteOfDay_7 (by decide) ?_
  exact x_iret X hr hlocks hP hD hS rfl dX3_minuteOfDay_8

def eop (z : Nat → Int32) (mn : Int32) : Int32 := if isw mn 1 2000 = 0 then -1002 else if z 0 + mn ≤ 999999 then 0 else -1004
set_option maxHeartbeats 4000000 in
set_option maxRecDepth 100000 in
theorem c_X3_errorOfPassing (l : Launch) (g : wG) (t : Nat → Nat) (z sf wf sg : Nat → Int32) (mn : Int32) : CtI l g 1 yX3_errorOfPassing cX3_errorOfPassing 2 (some .int) [.ref (t 0), .int mn] (TW g t z sf wf sg) (eop z mn) (TW g t z sf wf sg) := by
  intro sz
  refine x_enter (Qc := fun A => QI g A (eop z mn) (TW g t z sf wf sg)) (by decide) (Nat.le_of_ble_eq_true rfl) ?_
  intro p e s m args below meth c X hr hlocks A hA hP hD hS ls hl
  obtain ⟨⟨hx, hb, hml, hown, hts⟩, hK, hN⟩ := id X
  have hl : lv_has ls 2 [(0, .ref (t 0)), (1, .int mn)] := hl
  refine lv_iload_n hx hb dX3_errorOfPassing_0 rfl (lv_at hl 1 rfl) ?_
  refine lv_iconst (v := 1) hx hb dX3_errorOfPassing_1 (by decide) ?_
  refine lv_sipush (v := 2000) hx hb dX3_errorOfPassing_2 (by decide) ?_
  refine x_goI (wn := TW g t z sf wf sg) (x_rN (As := [.int mn, .int 1, .int 2000]) X (c_X5_isWithin l g mn 1 2000 _) yf_X5_isWithin ys_X5_isWithin hN.1 ⟨Nat.le_of_ble_eq_true rfl, Nat.le_of_ble_eq_true rfl⟩ hP hD (p_none _) hl rfl rfl (Nat.le_of_ble_eq_true rfl) dX3_errorOfPassing_5 ⟨Nat.zero_le _, Nat.zero_le _⟩) hP hD hS hA (p_none _) (p_noneB _) (fun H locs hP hD hS => ?_)
  refine lv_if_ne (tgt := 15) hx hb dX3_errorOfPassing_8 (by decide) (fun (c_1 : ¬ (isw mn 1 2000) = 0) => ?_) (fun (c_1 : (isw mn 1 2000) = 0) => ?_)
  · refine lv_aload_n hx hb dX3_errorOfPassing_15 rfl (lv_at hl 0 rfl) ?_
    refine x_get (v := .int (z 0)) X 0 3 in_X3 hP rfl rfl (by decide) wF_X3_47 rfl rfl dX3_errorOfPassing_16 ?_
    refine lv_iload_n hx hb dX3_errorOfPassing_19 rfl (lv_at hl 1 rfl) ?_
    refine lv_iadd hx hb dX3_errorOfPassing_20 ?_
    refine lv_ldc (v := 999999) hx hb hown (hts _ wT_X3_64) dX3_errorOfPassing_21 ?_
    refine lv_icmp_le (tgt := 32) hx hb dX3_errorOfPassing_23 (by decide) (fun (c_2 : ((z 0) + mn) ≤ 999999) => ?_) (fun (c_2 : ¬ ((z 0) + mn) ≤ 999999) => ?_)
    · refine lv_iconst (v := 0) hx hb dX3_errorOfPassing_32 (by decide) ?_
      exact x_iret X hr hlocks hP hD hS (by simp only [eop, if_neg c_1, if_pos c_2]) dX3_errorOfPassing_33
    · refine lv_sipush (v := (-1004)) hx hb dX3_errorOfPassing_26 (by decide) ?_
      refine lv_goto (tgt := 33) hx hb dX3_errorOfPassing_29 (by decide) ?_
      exact x_iret X hr hlocks hP hD hS (by simp only [eop, if_neg c_1, if_neg c_2]) dX3_errorOfPassing_33
  · refine lv_sipush (v := (-1002)) hx hb dX3_errorOfPassing_11 (by decide) ?_
    exact x_iret X hr hlocks hP hD hS (by simp only [eop, if_pos c_1]) dX3_errorOfPassing_14

set_option maxHeartbeats 4000000 in
set_option maxRecDepth 100000 in
theorem c_X3_copyFrom (l : Launch) (g : wG) (t u : Nat → Nat) (z sf wf sg y s2 w2 g2 : Nat → Int32) (hb0 : y 13 = 0 ∨ y 13 = 1) (hb1 : y 20 = 0 ∨ y 20 = 1) (hb2 : y 27 = 0 ∨ y 27 = 1) (hb3 : y 34 = 0 ∨ y 34 = 1) : CtV l g 2 yX3_copyFrom cX3_copyFrom 3 none [.ref (t 0), .ref (u 0)] (TW g t z sf wf sg ++ TW g u y s2 w2 g2) (TW g t y s2 w2 g2 ++ TW g u y s2 w2 g2) := by
  intro sz
  refine x_enter (Qc := fun A => QV g A (TW g t y s2 w2 g2 ++ TW g u y s2 w2 g2)) (by decide) (Nat.le_of_ble_eq_true rfl) ?_
  intro p e s m args below meth c X hr hlocks A hA hP hD hS ls hl
  obtain ⟨⟨hx, hb, hml, hown, hts⟩, hK, hN⟩ := id X
  have hl : lv_has ls 3 [(0, .ref (t 0)), (1, .ref (u 0))] := hl
  have hP : va_P g.1 vwCl ([((t 0), .inr (3, [.ref (t 1), .ref (t 6), .ref (t 9), .int (z 0), .int (z 4), .int (z 5), .int (z 6)])), ((t 1), .inl (g.2 2, 4, .inr (.inr (.inr (.inr (fun k => some (t (2 + k)))))))), ((t 2), .inr (0, [.int (z 8), .int (z 9), .int (z 10), .int (z 11), .int (z 12), .int (z 13), .int (z 14)])), ((t 3), .inr (0, [.int (z 15), .int (z 16), .int (z 17), .int (z 18), .int (z 19), .int (z 20), .int (z 21)])), ((t 4), .inr (0, [.int (z 22), .int (z 23), .int (z 24), .int (z 25), .int (z 26), .int (z 27), .int (z 28)])), ((t 5), .inr (0, [.int (z 29), .int (z 30), .int (z 31), .int (z 32), .int (z 33), .int (z 34), .int (z 35)])), ((t 6), .inr (2, [.ref (t 7), .ref (t 8), .int (z 7)])), ((t 7), .inl (g.2 0, 6, .inl sf)), ((t 8), .inl (g.2 0, 6, .inl wf)), ((t 9), .inl (g.2 0, 3, .inl sg))] ++ [((u 0), .inr (3, [.ref (u 1), .ref (u 6), .ref (u 9), .int (y 0), .int (y 4), .int (y 5), .int (y 6)])), ((u 1), .inl (g.2 2, 4, .inr (.inr (.inr (.inr (fun k => some (u (2 + k)))))))), ((u 2), .inr (0, [.int (y 8), .int (y 9), .int (y 10), .int (y 11), .int (y 12), .int (y 13), .int (y 14)])), ((u 3), .inr (0, [.int (y 15), .int (y 16), .int (y 17), .int (y 18), .int (y 19), .int (y 20), .int (y 21)])), ((u 4), .inr (0, [.int (y 22), .int (y 23), .int (y 24), .int (y 25), .int (y 26), .int (y 27), .int (y 28)])), ((u 5), .inr (0, [.int (y 29), .int (y 30), .int (y 31), .int (y 32), .int (y 33), .int (y 34), .int (y 35)])), ((u 6), .inr (2, [.ref (u 7), .ref (u 8), .int (y 7)])), ((u 7), .inl (g.2 0, 6, .inl s2)), ((u 8), .inl (g.2 0, 6, .inl w2)), ((u 9), .inl (g.2 0, 3, .inl g2))]) s.heap := hP
  have hD : va_D A ([((t 0), .inr (3, [.ref (t 1), .ref (t 6), .ref (t 9), .int (z 0), .int (z 4), .int (z 5), .int (z 6)])), ((t 1), .inl (g.2 2, 4, .inr (.inr (.inr (.inr (fun k => some (t (2 + k)))))))), ((t 2), .inr (0, [.int (z 8), .int (z 9), .int (z 10), .int (z 11), .int (z 12), .int (z 13), .int (z 14)])), ((t 3), .inr (0, [.int (z 15), .int (z 16), .int (z 17), .int (z 18), .int (z 19), .int (z 20), .int (z 21)])), ((t 4), .inr (0, [.int (z 22), .int (z 23), .int (z 24), .int (z 25), .int (z 26), .int (z 27), .int (z 28)])), ((t 5), .inr (0, [.int (z 29), .int (z 30), .int (z 31), .int (z 32), .int (z 33), .int (z 34), .int (z 35)])), ((t 6), .inr (2, [.ref (t 7), .ref (t 8), .int (z 7)])), ((t 7), .inl (g.2 0, 6, .inl sf)), ((t 8), .inl (g.2 0, 6, .inl wf)), ((t 9), .inl (g.2 0, 3, .inl sg))] ++ [((u 0), .inr (3, [.ref (u 1), .ref (u 6), .ref (u 9), .int (y 0), .int (y 4), .int (y 5), .int (y 6)])), ((u 1), .inl (g.2 2, 4, .inr (.inr (.inr (.inr (fun k => some (u (2 + k)))))))), ((u 2), .inr (0, [.int (y 8), .int (y 9), .int (y 10), .int (y 11), .int (y 12), .int (y 13), .int (y 14)])), ((u 3), .inr (0, [.int (y 15), .int (y 16), .int (y 17), .int (y 18), .int (y 19), .int (y 20), .int (y 21)])), ((u 4), .inr (0, [.int (y 22), .int (y 23), .int (y 24), .int (y 25), .int (y 26), .int (y 27), .int (y 28)])), ((u 5), .inr (0, [.int (y 29), .int (y 30), .int (y 31), .int (y 32), .int (y 33), .int (y 34), .int (y 35)])), ((u 6), .inr (2, [.ref (u 7), .ref (u 8), .int (y 7)])), ((u 7), .inl (g.2 0, 6, .inl s2)), ((u 8), .inl (g.2 0, 6, .inl w2)), ((u 9), .inl (g.2 0, 3, .inl g2))]) := hD
  refine lv_iconst (v := 0) hx hb dX3_copyFrom_0 (by decide) ?_
  refine lv_istore_n (lv' := [(2, .int 0), (0, .ref (t 0)), (1, .ref (u 0))]) hx hb dX3_copyFrom_1 rfl hl (by decide) rfl (fun ls hl => ?_)
  refine lv_iload_n hx hb dX3_copyFrom_2 rfl (lv_at hl 0 rfl) ?_
  refine lv_iconst (v := 4) hx hb dX3_copyFrom_3 (by decide) ?_
  refine lv_icmp_ge (tgt := 28) hx hb dX3_copyFrom_4 (by decide) (fun q9 => absurd q9 (show ¬ (4 : Int32) ≤ (0 : Int32) from (by decide))) (fun c_1 => ?_)
  refine lv_aload_n hx hb dX3_copyFrom_7 rfl (lv_at hl 1 rfl) ?_
  refine x_get (v := .ref (t 1)) X 0 0 in_X3 hP rfl rfl (by decide) wF_X3_11 rfl rfl dX3_copyFrom_8 ?_
  refine lv_iload_n hx hb dX3_copyFrom_11 rfl (lv_at hl 0 rfl) ?_
  refine x_aald (v := .ref (t 2)) X 1 2 0 hP rfl rfl rfl (by decide) (Nat.le_of_ble_eq_true rfl) rfl dX3_copyFrom_12 ?_
  refine lv_aload_n hx hb dX3_copyFrom_13 rfl (lv_at hl 2 rfl) ?_
  refine x_get (v := .ref (u 1)) X 10 0 in_X3 hP rfl rfl (by decide) wF_X3_11 rfl rfl dX3_copyFrom_14 ?_
  refine lv_iload_n hx hb dX3_copyFrom_17 rfl (lv_at hl 0 rfl) ?_
  refine x_aald (v := .ref (u 2)) X 11 2 0 hP rfl rfl rfl (by decide) (Nat.le_of_ble_eq_true rfl) rfl dX3_copyFrom_18 ?_
  refine x_goV (wn := [((t 0), .inr (3, [.ref (t 1), .ref (t 6), .ref (t 9), .int (z 0), .int (z 4), .int (z 5), .int (z 6)])), ((t 1), .inl (g.2 2, 4, .inr (.inr (.inr (.inr (fun k => some (t (2 + k)))))))), ((t 2), .inr (0, [.int (y 8), .int (y 9), .int (y 10), .int (y 11), .int (y 12), .int (y 13), .int (y 14)])), ((t 3), .inr (0, [.int (z 15), .int (z 16), .int (z 17), .int (z 18), .int (z 19), .int (z 20), .int (z 21)])), ((t 4), .inr (0, [.int (z 22), .int (z 23), .int (z 24), .int (z 25), .int (z 26), .int (z 27), .int (z 28)])), ((t 5), .inr (0, [.int (z 29), .int (z 30), .int (z 31), .int (z 32), .int (z 33), .int (z 34), .int (z 35)])), ((t 6), .inr (2, [.ref (t 7), .ref (t 8), .int (z 7)])), ((t 7), .inl (g.2 0, 6, .inl sf)), ((t 8), .inl (g.2 0, 6, .inl wf)), ((t 9), .inl (g.2 0, 3, .inl sg))] ++ [((u 0), .inr (3, [.ref (u 1), .ref (u 6), .ref (u 9), .int (y 0), .int (y 4), .int (y 5), .int (y 6)])), ((u 1), .inl (g.2 2, 4, .inr (.inr (.inr (.inr (fun k => some (u (2 + k)))))))), ((u 2), .inr (0, [.int (y 8), .int (y 9), .int (y 10), .int (y 11), .int (y 12), .int (y 13), .int (y 14)])), ((u 3), .inr (0, [.int (y 15), .int (y 16), .int (y 17), .int (y 18), .int (y 19), .int (y 20), .int (y 21)])), ((u 4), .inr (0, [.int (y 22), .int (y 23), .int (y 24), .int (y 25), .int (y 26), .int (y 27), .int (y 28)])), ((u 5), .inr (0, [.int (y 29), .int (y 30), .int (y 31), .int (y 32), .int (y 33), .int (y 34), .int (y 35)])), ((u 6), .inr (2, [.ref (u 7), .ref (u 8), .int (y 7)])), ((u 7), .inl (g.2 0, 6, .inl s2)), ((u 8), .inl (g.2 0, 6, .inl w2)), ((u 9), .inl (g.2 0, 3, .inl g2))]) (x_rV (As := [.ref (u 2)]) X (c_X0_copyFrom l g (t 2) (u 2) (z 8) (z 9) (z 10) (z 11) (z 12) (z 13) (z 14) (y 8) (y 9) (y 10) (y 11) (y 12) (y 13) (y 14) hb0 _) yf_X0_copyFrom yi_X0_copyFrom wM_X3_40 ⟨Nat.le_of_ble_eq_true rfl, Nat.le_of_ble_eq_true rfl⟩ hP hD (wo_perm (ws' := [_, _] ++ [_, _, _, _, _, _, _, _, _, _, _, _, _, _, _, _, _, _]) 20 [2, 12, 0, 1, 3, 4, 5, 6, 7, 8, 9, 10, 11, 13, 14, 15, 16, 17, 18, 19] rfl (by decide) rfl) 0 rfl rfl hl rfl rfl (Nat.le_of_ble_eq_true rfl) dX3_copyFrom_19 ⟨Nat.zero_le _, Nat.zero_le _⟩) hP hD hS hA (wo_perm (ws' := [_, _] ++ [_, _, _, _, _, _, _, _, _, _, _, _, _, _, _, _, _, _]) 20 [2, 12, 0, 1, 3, 4, 5, 6, 7, 8, 9, 10, 11, 13, 14, 15, 16, 17, 18, 19] rfl (by decide) rfl) (wo_perm 20 [0, 1, 18, 2, 3, 4, 5, 6, 7, 8, 9, 10, 19, 11, 12, 13, 14, 15, 16, 17] rfl (by decide) rfl) (fun H locs hP hD hS => ?_)
  refine lv_iinc (v := 1) (lv' := [(2, .int 1), (0, .ref (t 0)), (1, .ref (u 0))]) hx hb dX3_copyFrom_22 hl (k := 0) rfl rfl (by decide) rfl (fun ls hl => ?_)
  refine lv_goto (tgt := 2) hx hb dX3_copyFrom_25 (by decide) ?_
  refine lv_iload_n hx hb dX3_copyFrom_2 rfl (lv_at hl 0 rfl) ?_
  refine lv_iconst (v := 4) hx hb dX3_copyFrom_3 (by decide) ?_
  refine lv_icmp_ge (tgt := 28) hx hb dX3_copyFrom_4 (by decide) (fun q9 => absurd q9 (show ¬ (4 : Int32) ≤ (1 : Int32) from (by decide))) (fun c_2 => ?_)
  refine lv_aload_n hx hb dX3_copyFrom_7 rfl (lv_at hl 1 rfl) ?_
  refine x_get (v := .ref (t 1)) X 0 0 in_X3 hP rfl rfl (by decide) wF_X3_11 rfl rfl dX3_copyFrom_8 ?_
  refine lv_iload_n hx hb dX3_copyFrom_11 rfl (lv_at hl 0 rfl) ?_
  refine x_aald (v := .ref (t 3)) X 1 2 1 hP rfl rfl rfl (by decide) (Nat.le_of_ble_eq_true rfl) rfl dX3_copyFrom_12 ?_
  refine lv_aload_n hx hb dX3_copyFrom_13 rfl (lv_at hl 2 rfl) ?_
  refine x_get (v := .ref (u 1)) X 10 0 in_X3 hP rfl rfl (by decide) wF_X3_11 rfl rfl dX3_copyFrom_14 ?_
  refine lv_iload_n hx hb dX3_copyFrom_17 rfl (lv_at hl 0 rfl) ?_
  refine x_aald (v := .ref (u 3)) X 11 2 1 hP rfl rfl rfl (by decide) (Nat.le_of_ble_eq_true rfl) rfl dX3_copyFrom_18 ?_
  refine x_goV (wn := [((t 0), .inr (3, [.ref (t 1), .ref (t 6), .ref (t 9), .int (z 0), .int (z 4), .int (z 5), .int (z 6)])), ((t 1), .inl (g.2 2, 4, .inr (.inr (.inr (.inr (fun k => some (t (2 + k)))))))), ((t 2), .inr (0, [.int (y 8), .int (y 9), .int (y 10), .int (y 11), .int (y 12), .int (y 13), .int (y 14)])), ((t 3), .inr (0, [.int (y 15), .int (y 16), .int (y 17), .int (y 18), .int (y 19), .int (y 20), .int (y 21)])), ((t 4), .inr (0, [.int (z 22), .int (z 23), .int (z 24), .int (z 25), .int (z 26), .int (z 27), .int (z 28)])), ((t 5), .inr (0, [.int (z 29), .int (z 30), .int (z 31), .int (z 32), .int (z 33), .int (z 34), .int (z 35)])), ((t 6), .inr (2, [.ref (t 7), .ref (t 8), .int (z 7)])), ((t 7), .inl (g.2 0, 6, .inl sf)), ((t 8), .inl (g.2 0, 6, .inl wf)), ((t 9), .inl (g.2 0, 3, .inl sg))] ++ [((u 0), .inr (3, [.ref (u 1), .ref (u 6), .ref (u 9), .int (y 0), .int (y 4), .int (y 5), .int (y 6)])), ((u 1), .inl (g.2 2, 4, .inr (.inr (.inr (.inr (fun k => some (u (2 + k)))))))), ((u 2), .inr (0, [.int (y 8), .int (y 9), .int (y 10), .int (y 11), .int (y 12), .int (y 13), .int (y 14)])), ((u 3), .inr (0, [.int (y 15), .int (y 16), .int (y 17), .int (y 18), .int (y 19), .int (y 20), .int (y 21)])), ((u 4), .inr (0, [.int (y 22), .int (y 23), .int (y 24), .int (y 25), .int (y 26), .int (y 27), .int (y 28)])), ((u 5), .inr (0, [.int (y 29), .int (y 30), .int (y 31), .int (y 32), .int (y 33), .int (y 34), .int (y 35)])), ((u 6), .inr (2, [.ref (u 7), .ref (u 8), .int (y 7)])), ((u 7), .inl (g.2 0, 6, .inl s2)), ((u 8), .inl (g.2 0, 6, .inl w2)), ((u 9), .inl (g.2 0, 3, .inl g2))]) (x_rV (As := [.ref (u 3)]) X (c_X0_copyFrom l g (t 3) (u 3) (z 15) (z 16) (z 17) (z 18) (z 19) (z 20) (z 21) (y 15) (y 16) (y 17) (y 18) (y 19) (y 20) (y 21) hb1 _) yf_X0_copyFrom yi_X0_copyFrom wM_X3_40 ⟨Nat.le_of_ble_eq_true rfl, Nat.le_of_ble_eq_true rfl⟩ hP hD (wo_perm (ws' := [_, _] ++ [_, _, _, _, _, _, _, _, _, _, _, _, _, _, _, _, _, _]) 20 [3, 13, 0, 1, 2, 4, 5, 6, 7, 8, 9, 10, 11, 12, 14, 15, 16, 17, 18, 19] rfl (by decide) rfl) 0 rfl rfl hl rfl rfl (Nat.le_of_ble_eq_true rfl) dX3_copyFrom_19 ⟨Nat.zero_le _, Nat.zero_le _⟩) hP hD hS hA (wo_perm (ws' := [_, _] ++ [_, _, _, _, _, _, _, _, _, _, _, _, _, _, _, _, _, _]) 20 [3, 13, 0, 1, 2, 4, 5, 6, 7, 8, 9, 10, 11, 12, 14, 15, 16, 17, 18, 19] rfl (by decide) rfl) (wo_perm 20 [0, 1, 2, 18, 3, 4, 5, 6, 7, 8, 9, 10, 11, 19, 12, 13, 14, 15, 16, 17] rfl (by decide) rfl) (fun H locs hP hD hS => ?_)
  refine lv_iinc (v := 2) (lv' := [(2, .int 2), (0, .ref (t 0)), (1, .ref (u 0))]) hx hb dX3_copyFrom_22 hl (k := 0) rfl rfl (by decide) rfl (fun ls hl => ?_)
  refine lv_goto (tgt := 2) hx hb dX3_copyFrom_25 (by decide) ?_
  refine lv_iload_n hx hb dX3_copyFrom_2 rfl (lv_at hl 0 rfl) ?_
  refine lv_iconst (v := 4) hx hb dX3_copyFrom_3 (by decide) ?_
  refine lv_icmp_ge (tgt := 28) hx hb dX3_copyFrom_4 (by decide) (fun q9 => absurd q9 (show ¬ (4 : Int32) ≤ (2 : Int32) from (by decide))) (fun c_3 => ?_)
  refine lv_aload_n hx hb dX3_copyFrom_7 rfl (lv_at hl 1 rfl) ?_
  refine x_get (v := .ref (t 1)) X 0 0 in_X3 hP rfl rfl (by decide) wF_X3_11 rfl rfl dX3_copyFrom_8 ?_
  refine lv_iload_n hx hb dX3_copyFrom_11 rfl (lv_at hl 0 rfl) ?_
  refine x_aald (v := .ref (t 4)) X 1 2 2 hP rfl rfl rfl (by decide) (Nat.le_of_ble_eq_true rfl) rfl dX3_copyFrom_12 ?_
  refine lv_aload_n hx hb dX3_copyFrom_13 rfl (lv_at hl 2 rfl) ?_
  refine x_get (v := .ref (u 1)) X 10 0 in_X3 hP rfl rfl (by decide) wF_X3_11 rfl rfl dX3_copyFrom_14 ?_
  refine lv_iload_n hx hb dX3_copyFrom_17 rfl (lv_at hl 0 rfl) ?_
  refine x_aald (v := .ref (u 4)) X 11 2 2 hP rfl rfl rfl (by decide) (Nat.le_of_ble_eq_true rfl) rfl dX3_copyFrom_18 ?_
  refine x_goV (wn := [((t 0), .inr (3, [.ref (t 1), .ref (t 6), .ref (t 9), .int (z 0), .int (z 4), .int (z 5), .int (z 6)])), ((t 1), .inl (g.2 2, 4, .inr (.inr (.inr (.inr (fun k => some (t (2 + k)))))))), ((t 2), .inr (0, [.int (y 8), .int (y 9), .int (y 10), .int (y 11), .int (y 12), .int (y 13), .int (y 14)])), ((t 3), .inr (0, [.int (y 15), .int (y 16), .int (y 17), .int (y 18), .int (y 19), .int (y 20), .int (y 21)])), ((t 4), .inr (0, [.int (y 22), .int (y 23), .int (y 24), .int (y 25), .int (y 26), .int (y 27), .int (y 28)])), ((t 5), .inr (0, [.int (z 29), .int (z 30), .int (z 31), .int (z 32), .int (z 33), .int (z 34), .int (z 35)])), ((t 6), .inr (2, [.ref (t 7), .ref (t 8), .int (z 7)])), ((t 7), .inl (g.2 0, 6, .inl sf)), ((t 8), .inl (g.2 0, 6, .inl wf)), ((t 9), .inl (g.2 0, 3, .inl sg))] ++ [((u 0), .inr (3, [.ref (u 1), .ref (u 6), .ref (u 9), .int (y 0), .int (y 4), .int (y 5), .int (y 6)])), ((u 1), .inl (g.2 2, 4, .inr (.inr (.inr (.inr (fun k => some (u (2 + k)))))))), ((u 2), .inr (0, [.int (y 8), .int (y 9), .int (y 10), .int (y 11), .int (y 12), .int (y 13), .int (y 14)])), ((u 3), .inr (0, [.int (y 15), .int (y 16), .int (y 17), .int (y 18), .int (y 19), .int (y 20), .int (y 21)])), ((u 4), .inr (0, [.int (y 22), .int (y 23), .int (y 24), .int (y 25), .int (y 26), .int (y 27), .int (y 28)])), ((u 5), .inr (0, [.int (y 29), .int (y 30), .int (y 31), .int (y 32), .int (y 33), .int (y 34), .int (y 35)])), ((u 6), .inr (2, [.ref (u 7), .ref (u 8), .int (y 7)])), ((u 7), .inl (g.2 0, 6, .inl s2)), ((u 8), .inl (g.2 0, 6, .inl w2)), ((u 9), .inl (g.2 0, 3, .inl g2))]) (x_rV (As := [.ref (u 4)]) X (c_X0_copyFrom l g (t 4) (u 4) (z 22) (z 23) (z 24) (z 25) (z 26) (z 27) (z 28) (y 22) (y 23) (y 24) (y 25) (y 26) (y 27) (y 28) hb2 _) yf_X0_copyFrom yi_X0_copyFrom wM_X3_40 ⟨Nat.le_of_ble_eq_true rfl, Nat.le_of_ble_eq_true rfl⟩ hP hD (wo_perm (ws' := [_, _] ++ [_, _, _, _, _, _, _, _, _, _, _, _, _, _, _, _, _, _]) 20 [4, 14, 0, 1, 2, 3, 5, 6, 7, 8, 9, 10, 11, 12, 13, 15, 16, 17, 18, 19] rfl (by decide) rfl) 0 rfl rfl hl rfl rfl (Nat.le_of_ble_eq_true rfl) dX3_copyFrom_19 ⟨Nat.zero_le _, Nat.zero_le _⟩) hP hD hS hA (wo_perm (ws' := [_, _] ++ [_, _, _, _, _, _, _, _, _, _, _, _, _, _, _, _, _, _]) 20 [4, 14, 0, 1, 2, 3, 5, 6, 7, 8, 9, 10, 11, 12, 13, 15, 16, 17, 18, 19] rfl (by decide) rfl) (wo_perm 20 [0, 1, 2, 3, 18, 4, 5, 6, 7, 8, 9, 10, 11, 12, 19, 13, 14, 15, 16, 17] rfl (by decide) rfl) (fun H locs hP hD hS => ?_)
  refine lv_iinc (v := 3) (lv' := [(2, .int 3), (0, .ref (t 0)), (1, .ref (u 0))]) hx hb dX3_copyFrom_22 hl (k := 0) rfl rfl (by decide) rfl (fun ls hl => ?_)
  refine lv_goto (tgt := 2) hx hb dX3_copyFrom_25 (by decide) ?_
  refine lv_iload_n hx hb dX3_copyFrom_2 rfl (lv_at hl 0 rfl) ?_
  refine lv_iconst (v := 4) hx hb dX3_copyFrom_3 (by decide) ?_
  refine lv_icmp_ge (tgt := 28) hx hb dX3_copyFrom_4 (by decide) (fun q9 => absurd q9 (show ¬ (4 : Int32) ≤ (3 : Int32) from (by decide))) (fun c_4 => ?_)
  refine lv_aload_n hx hb dX3_copyFrom_7 rfl (lv_at hl 1 rfl) ?_
  refine x_get (v := .ref (t 1)) X 0 0 in_X3 hP rfl rfl (by decide) wF_X3_11 rfl rfl dX3_copyFrom_8 ?_
  refine lv_iload_n hx hb dX3_copyFrom_11 rfl (lv_at hl 0 rfl) ?_
  refine x_aald (v := .ref (t 5)) X 1 2 3 hP rfl rfl rfl (by decide) (Nat.le_of_ble_eq_true rfl) rfl dX3_copyFrom_12 ?_
  refine lv_aload_n hx hb dX3_copyFrom_13 rfl (lv_at hl 2 rfl) ?_
  refine x_get (v := .ref (u 1)) X 10 0 in_X3 hP rfl rfl (by decide) wF_X3_11 rfl rfl dX3_copyFrom_14 ?_
  refine lv_iload_n hx hb dX3_copyFrom_17 rfl (lv_at hl 0 rfl) ?_
  refine x_aald (v := .ref (u 5)) X 11 2 3 hP rfl rfl rfl (by decide) (Nat.le_of_ble_eq_true rfl) rfl dX3_copyFrom_18 ?_
  refine x_goV (wn := [((t 0), .inr (3, [.ref (t 1), .ref (t 6), .ref (t 9), .int (z 0), .int (z 4), .int (z 5), .int (z 6)])), ((t 1), .inl (g.2 2, 4, .inr (.inr (.inr (.inr (fun k => some (t (2 + k)))))))), ((t 2), .inr (0, [.int (y 8), .int (y 9), .int (y 10), .int (y 11), .int (y 12), .int (y 13), .int (y 14)])), ((t 3), .inr (0, [.int (y 15), .int (y 16), .int (y 17), .int (y 18), .int (y 19), .int (y 20), .int (y 21)])), ((t 4), .inr (0, [.int (y 22), .int (y 23), .int (y 24), .int (y 25), .int (y 26), .int (y 27), .int (y 28)])), ((t 5), .inr (0, [.int (y 29), .int (y 30), .int (y 31), .int (y 32), .int (y 33), .int (y 34), .int (y 35)])), ((t 6), .inr (2, [.ref (t 7), .ref (t 8), .int (z 7)])), ((t 7), .inl (g.2 0, 6, .inl sf)), ((t 8), .inl (g.2 0, 6, .inl wf)), ((t 9), .inl (g.2 0, 3, .inl sg))] ++ [((u 0), .inr (3, [.ref (u 1), .ref (u 6), .ref (u 9), .int (y 0), .int (y 4), .int (y 5), .int (y 6)])), ((u 1), .inl (g.2 2, 4, .inr (.inr (.inr (.inr (fun k => some (u (2 + k)))))))), ((u 2), .inr (0, [.int (y 8), .int (y 9), .int (y 10), .int (y 11), .int (y 12), .int (y 13), .int (y 14)])), ((u 3), .inr (0, [.int (y 15), .int (y 16), .int (y 17), .int (y 18), .int (y 19), .int (y 20), .int (y 21)])), ((u 4), .inr (0, [.int (y 22), .int (y 23), .int (y 24), .int (y 25), .int (y 26), .int (y 27), .int (y 28)])), ((u 5), .inr (0, [.int (y 29), .int (y 30), .int (y 31), .int (y 32), .int (y 33), .int (y 34), .int (y 35)])), ((u 6), .inr (2, [.ref (u 7), .ref (u 8), .int (y 7)])), ((u 7), .inl (g.2 0, 6, .inl s2)), ((u 8), .inl (g.2 0, 6, .inl w2)), ((u 9), .inl (g.2 0, 3, .inl g2))]) (x_rV (As := [.ref (u 5)]) X (c_X0_copyFrom l g (t 5) (u 5) (z 29) (z 30) (z 31) (z 32) (z 33) (z 34) (z 35) (y 29) (y 30) (y 31) (y 32) (y 33) (y 34) (y 35) hb3 _) yf_X0_copyFrom yi_X0_copyFrom wM_X3_40 ⟨Nat.le_of_ble_eq_true rfl, Nat.le_of_ble_eq_true rfl⟩ hP hD (wo_perm (ws' := [_, _] ++ [_, _, _, _, _, _, _, _, _, _, _, _, _, _, _, _, _, _]) 20 [5, 15, 0, 1, 2, 3, 4, 6, 7, 8, 9, 10, 11, 12, 13, 14, 16, 17, 18, 19] rfl (by decide) rfl) 0 rfl rfl hl rfl rfl (Nat.le_of_ble_eq_true rfl) dX3_copyFrom_19 ⟨Nat.zero_le _, Nat.zero_le _⟩) hP hD hS hA (wo_perm (ws' := [_, _] ++ [_, _, _, _, _, _, _, _, _, _, _, _, _, _, _, _, _, _]) 20 [5, 15, 0, 1, 2, 3, 4, 6, 7, 8, 9, 10, 11, 12, 13, 14, 16, 17, 18, 19] rfl (by decide) rfl) (wo_perm 20 [0, 1, 2, 3, 4, 18, 5, 6, 7, 8, 9, 10, 11, 12, 13, 19, 14, 15, 16, 17] rfl (by decide) rfl) (fun H locs hP hD hS => ?_)
  refine lv_iinc (v := 4) (lv' := [(2, .int 4), (0, .ref (t 0)), (1, .ref (u 0))]) hx hb dX3_copyFrom_22 hl (k := 0) rfl rfl (by decide) rfl (fun ls hl => ?_)
  refine lv_goto (tgt := 2) hx hb dX3_copyFrom_25 (by decide) ?_
  refine lv_iload_n hx hb dX3_copyFrom_2 rfl (lv_at hl 0 rfl) ?_
  refine lv_iconst (v := 4) hx hb dX3_copyFrom_3 (by decide) ?_
  refine lv_icmp_ge (tgt := 28) hx hb dX3_copyFrom_4 (by decide) (fun c_5 => ?_) (fun q9 => absurd (show (4 : Int32) ≤ (4 : Int32) from (by decide)) (show ¬ ((4 : Int32) ≤ (4 : Int32)) from q9))
  refine lv_aload_n hx hb dX3_copyFrom_28 rfl (lv_at hl 1 rfl) ?_
  refine x_get (v := .ref (t 6)) X 0 1 in_X3 hP rfl rfl (by decide) wF_X3_20 rfl rfl dX3_copyFrom_29 ?_
  refine lv_aload_n hx hb dX3_copyFrom_32 rfl (lv_at hl 2 rfl) ?_
  refine x_get (v := .ref (u 6)) X 10 1 in_X3 hP rfl rfl (by decide) wF_X3_20 rfl rfl dX3_copyFrom_33 ?_
  refine x_goV (wn := [((t 0), .inr (3, [.ref (t 1), .ref (t 6), .ref (t 9), .int (z 0), .int (z 4), .int (z 5), .int (z 6)])), ((t 1), .inl (g.2 2, 4, .inr (.inr (.inr (.inr (fun k => some (t (2 + k)))))))), ((t 2), .inr (0, [.int (y 8), .int (y 9), .int (y 10), .int (y 11), .int (y 12), .int (y 13), .int (y 14)])), ((t 3), .inr (0, [.int (y 15), .int (y 16), .int (y 17), .int (y 18), .int (y 19), .int (y 20), .int (y 21)])), ((t 4), .inr (0, [.int (y 22), .int (y 23), .int (y 24), .int (y 25), .int (y 26), .int (y 27), .int (y 28)])), ((t 5), .inr (0, [.int (y 29), .int (y 30), .int (y 31), .int (y 32), .int (y 33), .int (y 34), .int (y 35)])), ((t 6), .inr (2, [.ref (t 7), .ref (t 8), .int (y 7)])), ((t 7), .inl (g.2 0, 6, .inl s2)), ((t 8), .inl (g.2 0, 6, .inl w2)), ((t 9), .inl (g.2 0, 3, .inl sg))] ++ [((u 0), .inr (3, [.ref (u 1), .ref (u 6), .ref (u 9), .int (y 0), .int (y 4), .int (y 5), .int (y 6)])), ((u 1), .inl (g.2 2, 4, .inr (.inr (.inr (.inr (fun k => some (u (2 + k)))))))), ((u 2), .inr (0, [.int (y 8), .int (y 9), .int (y 10), .int (y 11), .int (y 12), .int (y 13), .int (y 14)])), ((u 3), .inr (0, [.int (y 15), .int (y 16), .int (y 17), .int (y 18), .int (y 19), .int (y 20), .int (y 21)])), ((u 4), .inr (0, [.int (y 22), .int (y 23), .int (y 24), .int (y 25), .int (y 26), .int (y 27), .int (y 28)])), ((u 5), .inr (0, [.int (y 29), .int (y 30), .int (y 31), .int (y 32), .int (y 33), .int (y 34), .int (y 35)])), ((u 6), .inr (2, [.ref (u 7), .ref (u 8), .int (y 7)])), ((u 7), .inl (g.2 0, 6, .inl s2)), ((u 8), .inl (g.2 0, 6, .inl w2)), ((u 9), .inl (g.2 0, 3, .inl g2))]) (x_rV (As := [.ref (u 6)]) X (c_X2_copyFrom l g (t 6) (t 7) (t 8) (u 6) (u 7) (u 8) (z 7) (y 7) sf wf s2 w2 _) yf_X2_copyFrom yi_X2_copyFrom wM_X3_44 ⟨Nat.le_of_ble_eq_true rfl, Nat.le_of_ble_eq_true rfl⟩ hP hD (wo_perm (ws' := [_, _, _, _, _, _] ++ [_, _, _, _, _, _, _, _, _, _, _, _, _, _]) 20 [6, 7, 8, 16, 17, 18, 0, 1, 2, 3, 4, 5, 9, 10, 11, 12, 13, 14, 15, 19] rfl (by decide) rfl) 0 rfl rfl hl rfl rfl (Nat.le_of_ble_eq_true rfl) dX3_copyFrom_36 ⟨Nat.zero_le _, Nat.zero_le _⟩) hP hD hS hA (wo_perm (ws' := [_, _, _, _, _, _] ++ [_, _, _, _, _, _, _, _, _, _, _, _, _, _]) 20 [6, 7, 8, 16, 17, 18, 0, 1, 2, 3, 4, 5, 9, 10, 11, 12, 13, 14, 15, 19] rfl (by decide) rfl) (wo_perm 20 [0, 1, 2, 3, 4, 5, 14, 15, 16, 6, 7, 8, 9, 10, 11, 12, 17, 18, 19, 13] rfl (by decide) rfl) (fun H locs hP hD hS => ?_)
  refine lv_aload_n hx hb dX3_copyFrom_39 rfl (lv_at hl 2 rfl) ?_
  refine x_get (v := .ref (u 9)) X 10 2 in_X3 hP rfl rfl (by decide) wF_X3_24 rfl rfl dX3_copyFrom_40 ?_
  refine lv_iconst (v := 0) hx hb dX3_copyFrom_43 (by decide) ?_
  refine lv_aload_n hx hb dX3_copyFrom_44 rfl (lv_at hl 1 rfl) ?_
  refine x_get (v := .ref (t 9)) X 0 2 in_X3 hP rfl rfl (by decide) wF_X3_24 rfl rfl dX3_copyFrom_45 ?_
  refine lv_iconst (v := 0) hx hb dX3_copyFrom_48 (by decide) ?_
  refine lv_iconst (v := 3) hx hb dX3_copyFrom_49 (by decide) ?_
  refine x_copy (n := 3) (ws2 := [((t 0), .inr (3, [.ref (t 1), .ref (t 6), .ref (t 9), .int (z 0), .int (z 4), .int (z 5), .int (z 6)])), ((t 1), .inl (g.2 2, 4, .inr (.inr (.inr (.inr (fun k => some (t (2 + k)))))))), ((t 2), .inr (0, [.int (y 8), .int (y 9), .int (y 10), .int (y 11), .int (y 12), .int (y 13), .int (y 14)])), ((t 3), .inr (0, [.int (y 15), .int (y 16), .int (y 17), .int (y 18), .int (y 19), .int (y 20), .int (y 21)])), ((t 4), .inr (0, [.int (y 22), .int (y 23), .int (y 24), .int (y 25), .int (y 26), .int (y 27), .int (y 28)])), ((t 5), .inr (0, [.int (y 29), .int (y 30), .int (y 31), .int (y 32), .int (y 33), .int (y 34), .int (y 35)])), ((t 6), .inr (2, [.ref (t 7), .ref (t 8), .int (y 7)])), ((t 7), .inl (g.2 0, 6, .inl s2)), ((t 8), .inl (g.2 0, 6, .inl w2)), ((t 9), .inl (g.2 0, 3, .inl g2))] ++ [((u 0), .inr (3, [.ref (u 1), .ref (u 6), .ref (u 9), .int (y 0), .int (y 4), .int (y 5), .int (y 6)])), ((u 1), .inl (g.2 2, 4, .inr (.inr (.inr (.inr (fun k => some (u (2 + k)))))))), ((u 2), .inr (0, [.int (y 8), .int (y 9), .int (y 10), .int (y 11), .int (y 12), .int (y 13), .int (y 14)])), ((u 3), .inr (0, [.int (y 15), .int (y 16), .int (y 17), .int (y 18), .int (y 19), .int (y 20), .int (y 21)])), ((u 4), .inr (0, [.int (y 22), .int (y 23), .int (y 24), .int (y 25), .int (y 26), .int (y 27), .int (y 28)])), ((u 5), .inr (0, [.int (y 29), .int (y 30), .int (y 31), .int (y 32), .int (y 33), .int (y 34), .int (y 35)])), ((u 6), .inr (2, [.ref (u 7), .ref (u 8), .int (y 7)])), ((u 7), .inl (g.2 0, 6, .inl s2)), ((u 8), .inl (g.2 0, 6, .inl w2)), ((u 9), .inl (g.2 0, 3, .inl g2))]) X hl wM_X3_34 ⟨yv_arraycopy, ys_arraycopyName, wI_RJ10⟩ hP hD hS 19 9 rfl rfl (Nat.le_of_ble_eq_true rfl) ⟨Nat.le_of_ble_eq_true rfl, Nat.le_of_ble_eq_true rfl⟩ rfl dX3_copyFrom_50 (fun H locs hP hD hS => ?_)
  refine lv_aload_n hx hb dX3_copyFrom_53 rfl (lv_at hl 1 rfl) ?_
  refine lv_aload_n hx hb dX3_copyFrom_54 rfl (lv_at hl 2 rfl) ?_
  refine x_get (v := .int (y 0)) X 10 3 in_X3 hP rfl rfl (by decide) wF_X3_47 rfl rfl dX3_copyFrom_55 ?_
  refine x_put (v := .int (y 0)) (ty0 := tyX3) (ws2 := [((t 0), .inr (3, [.ref (t 1), .ref (t 6), .ref (t 9), .int (y 0), .int (z 4), .int (z 5), .int (z 6)])), ((t 1), .inl (g.2 2, 4, .inr (.inr (.inr (.inr (fun k => some (t (2 + k)))))))), ((t 2), .inr (0, [.int (y 8), .int (y 9), .int (y 10), .int (y 11), .int (y 12), .int (y 13), .int (y 14)])), ((t 3), .inr (0, [.int (y 15), .int (y 16), .int (y 17), .int (y 18), .int (y 19), .int (y 20), .int (y 21)])), ((t 4), .inr (0, [.int (y 22), .int (y 23), .int (y 24), .int (y 25), .int (y 26), .int (y 27), .int (y 28)])), ((t 5), .inr (0, [.int (y 29), .int (y 30), .int (y 31), .int (y 32), .int (y 33), .int (y 34), .int (y 35)])), ((t 6), .inr (2, [.ref (t 7), .ref (t 8), .int (y 7)])), ((t 7), .inl (g.2 0, 6, .inl s2)), ((t 8), .inl (g.2 0, 6, .inl w2)), ((t 9), .inl (g.2 0, 3, .inl g2))] ++ [((u 0), .inr (3, [.ref (u 1), .ref (u 6), .ref (u 9), .int (y 0), .int (y 4), .int (y 5), .int (y 6)])), ((u 1), .inl (g.2 2, 4, .inr (.inr (.inr (.inr (fun k => some (u (2 + k)))))))), ((u 2), .inr (0, [.int (y 8), .int (y 9), .int (y 10), .int (y 11), .int (y 12), .int (y 13), .int (y 14)])), ((u 3), .inr (0, [.int (y 15), .int (y 16), .int (y 17), .int (y 18), .int (y 19), .int (y 20), .int (y 21)])), ((u 4), .inr (0, [.int (y 22), .int (y 23), .int (y 24), .int (y 25), .int (y 26), .int (y 27), .int (y 28)])), ((u 5), .inr (0, [.int (y 29), .int (y 30), .int (y 31), .int (y 32), .int (y 33), .int (y 34), .int (y 35)])), ((u 6), .inr (2, [.ref (u 7), .ref (u 8), .int (y 7)])), ((u 7), .inl (g.2 0, 6, .inl s2)), ((u 8), .inl (g.2 0, 6, .inl w2)), ((u 9), .inl (g.2 0, 3, .inl g2))]) X 0 3 in_X3 tyX3_ok nmX3 hP hD hS rfl rfl (by decide) wF_X3_47 rfl rfl rfl rfl (Nat.le_of_ble_eq_true rfl) rfl dX3_copyFrom_58 (fun H locs hP hD hS => ?_)
  refine lv_aload_n hx hb dX3_copyFrom_61 rfl (lv_at hl 1 rfl) ?_
  refine lv_aload_n hx hb dX3_copyFrom_62 rfl (lv_at hl 2 rfl) ?_
  refine x_get (v := .int (y 4)) X 10 4 in_X3 hP rfl rfl (by decide) wF_X3_51 rfl rfl dX3_copyFrom_63 ?_
  refine x_put (v := .int (y 4)) (ty0 := tyX3) (ws2 := [((t 0), .inr (3, [.ref (t 1), .ref (t 6), .ref (t 9), .int (y 0), .int (y 4), .int (z 5), .int (z 6)])), ((t 1), .inl (g.2 2, 4, .inr (.inr (.inr (.inr (fun k => some (t (2 + k)))))))), ((t 2), .inr (0, [.int (y 8), .int (y 9), .int (y 10), .int (y 11), .int (y 12), .int (y 13), .int (y 14)])), ((t 3), .inr (0, [.int (y 15), .int (y 16), .int (y 17), .int (y 18), .int (y 19), .int (y 20), .int (y 21)])), ((t 4), .inr (0, [.int (y 22), .int (y 23), .int (y 24), .int (y 25), .int (y 26), .int (y 27), .int (y 28)])), ((t 5), .inr (0, [.int (y 29), .int (y 30), .int (y 31), .int (y 32), .int (y 33), .int (y 34), .int (y 35)])), ((t 6), .inr (2, [.ref (t 7), .ref (t 8), .int (y 7)])), ((t 7), .inl (g.2 0, 6, .inl s2)), ((t 8), .inl (g.2 0, 6, .inl w2)), ((t 9), .inl (g.2 0, 3, .inl g2))] ++ [((u 0), .inr (3, [.ref (u 1), .ref (u 6), .ref (u 9), .int (y 0), .int (y 4), .int (y 5), .int (y 6)])), ((u 1), .inl (g.2 2, 4, .inr (.inr (.inr (.inr (fun k => some (u (2 + k)))))))), ((u 2), .inr (0, [.int (y 8), .int (y 9), .int (y 10), .int (y 11), .int (y 12), .int (y 13), .int (y 14)])), ((u 3), .inr (0, [.int (y 15), .int (y 16), .int (y 17), .int (y 18), .int (y 19), .int (y 20), .int (y 21)])), ((u 4), .inr (0, [.int (y 22), .int (y 23), .int (y 24), .int (y 25), .int (y 26), .int (y 27), .int (y 28)])), ((u 5), .inr (0, [.int (y 29), .int (y 30), .int (y 31), .int (y 32), .int (y 33), .int (y 34), .int (y 35)])), ((u 6), .inr (2, [.ref (u 7), .ref (u 8), .int (y 7)])), ((u 7), .inl (g.2 0, 6, .inl s2)), ((u 8), .inl (g.2 0, 6, .inl w2)), ((u 9), .inl (g.2 0, 3, .inl g2))]) X 0 4 in_X3 tyX3_ok nmX3 hP hD hS rfl rfl (by decide) wF_X3_51 rfl rfl rfl rfl (Nat.le_of_ble_eq_true rfl) rfl dX3_copyFrom_66 (fun H locs hP hD hS => ?_)
  refine lv_aload_n hx hb dX3_copyFrom_69 rfl (lv_at hl 1 rfl) ?_
  refine lv_aload_n hx hb dX3_copyFrom_70 rfl (lv_at hl 2 rfl) ?_
  refine x_get (v := .int (y 5)) X 10 5 in_X3 hP rfl rfl (by decide) wF_X3_54 rfl rfl dX3_copyFrom_71 ?_
  refine x_put (v := .int (y 5)) (ty0 := tyX3) (ws2 := [((t 0), .inr (3, [.ref (t 1), .ref (t 6), .ref (t 9), .int (y 0), .int (y 4), .int (y 5), .int (z 6)])), ((t 1), .inl (g.2 2, 4, .inr (.inr (.inr (.inr (fun k => some (t (2 + k)))))))), ((t 2), .inr (0, [.int (y 8), .int (y 9), .int (y 10), .int (y 11), .int (y 12), .int (y 13), .int (y 14)])), ((t 3), .inr (0, [.int (y 15), .int (y 16), .int (y 17), .int (y 18), .int (y 19), .int (y 20), .int (y 21)])), ((t 4), .inr (0, [.int (y 22), .int (y 23), .int (y 24), .int (y 25), .int (y 26), .int (y 27), .int (y 28)])), ((t 5), .inr (0, [.int (y 29), .int (y 30), .int (y 31), .int (y 32), .int (y 33), .int (y 34), .int (y 35)])), ((t 6), .inr (2, [.ref (t 7), .ref (t 8), .int (y 7)])), ((t 7), .inl (g.2 0, 6, .inl s2)), ((t 8), .inl (g.2 0, 6, .inl w2)), ((t 9), .inl (g.2 0, 3, .inl g2))] ++ [((u 0), .inr (3, [.ref (u 1), .ref (u 6), .ref (u 9), .int (y 0), .int (y 4), .int (y 5), .int (y 6)])), ((u 1), .inl (g.2 2, 4, .inr (.inr (.inr (.inr (fun k => some (u (2 + k)))))))), ((u 2), .inr (0, [.int (y 8), .int (y 9), .int (y 10), .int (y 11), .int (y 12), .int (y 13), .int (y 14)])), ((u 3), .inr (0, [.int (y 15), .int (y 16), .int (y 17), .int (y 18), .int (y 19), .int (y 20), .int (y 21)])), ((u 4), .inr (0, [.int (y 22), .int (y 23), .int (y 24), .int (y 25), .int (y 26), .int (y 27), .int (y 28)])), ((u 5), .inr (0, [.int (y 29), .int (y 30), .int (y 31), .int (y 32), .int (y 33), .int (y 34), .int (y 35)])), ((u 6), .inr (2, [.ref (u 7), .ref (u 8), .int (y 7)])), ((u 7), .inl (g.2 0, 6, .inl s2)), ((u 8), .inl (g.2 0, 6, .inl w2)), ((u 9), .inl (g.2 0, 3, .inl g2))]) X 0 5 in_X3 tyX3_ok nmX3 hP hD hS rfl rfl (by decide) wF_X3_54 rfl rfl rfl rfl (Nat.le_of_ble_eq_true rfl) rfl dX3_copyFrom_74 (fun H locs hP hD hS => ?_)
  refine lv_aload_n hx hb dX3_copyFrom_77 rfl (lv_at hl 1 rfl) ?_
  refine lv_aload_n hx hb dX3_copyFrom_78 rfl (lv_at hl 2 rfl) ?_
  refine x_get (v := .int (y 6)) X 10 6 in_X3 hP rfl rfl (by decide) wF_X3_57 rfl rfl dX3_copyFrom_79 ?_
  refine x_put (v := .int (y 6)) (ty0 := tyX3) (ws2 := [((t 0), .inr (3, [.ref (t 1), .ref (t 6), .ref (t 9), .int (y 0), .int (y 4), .int (y 5), .int (y 6)])), ((t 1), .inl (g.2 2, 4, .inr (.inr (.inr (.inr (fun k => some (t (2 + k)))))))), ((t 2), .inr (0, [.int (y 8), .int (y 9), .int (y 10), .int (y 11), .int (y 12), .int (y 13), .int (y 14)])), ((t 3), .inr (0, [.int (y 15), .int (y 16), .int (y 17), .int (y 18), .int (y 19), .int (y 20), .int (y 21)])), ((t 4), .inr (0, [.int (y 22), .int (y 23), .int (y 24), .int (y 25), .int (y 26), .int (y 27), .int (y 28)])), ((t 5), .inr (0, [.int (y 29), .int (y 30), .int (y 31), .int (y 32), .int (y 33), .int (y 34), .int (y 35)])), ((t 6), .inr (2, [.ref (t 7), .ref (t 8), .int (y 7)])), ((t 7), .inl (g.2 0, 6, .inl s2)), ((t 8), .inl (g.2 0, 6, .inl w2)), ((t 9), .inl (g.2 0, 3, .inl g2))] ++ [((u 0), .inr (3, [.ref (u 1), .ref (u 6), .ref (u 9), .int (y 0), .int (y 4), .int (y 5), .int (y 6)])), ((u 1), .inl (g.2 2, 4, .inr (.inr (.inr (.inr (fun k => some (u (2 + k)))))))), ((u 2), .inr (0, [.int (y 8), .int (y 9), .int (y 10), .int (y 11), .int (y 12), .int (y 13), .int (y 14)])), ((u 3), .inr (0, [.int (y 15), .int (y 16), .int (y 17), .int (y 18), .int (y 19), .int (y 20), .int (y 21)])), ((u 4), .inr (0, [.int (y 22), .int (y 23), .int (y 24), .int (y 25), .int (y 26), .int (y 27), .int (y 28)])), ((u 5), .inr (0, [.int (y 29), .int (y 30), .int (y 31), .int (y 32), .int (y 33), .int (y 34), .int (y 35)])), ((u 6), .inr (2, [.ref (u 7), .ref (u 8), .int (y 7)])), ((u 7), .inl (g.2 0, 6, .inl s2)), ((u 8), .inl (g.2 0, 6, .inl w2)), ((u 9), .inl (g.2 0, 3, .inl g2))]) X 0 6 in_X3 tyX3_ok nmX3 hP hD hS rfl rfl (by decide) wF_X3_57 rfl rfl rfl rfl (Nat.le_of_ble_eq_true rfl) rfl dX3_copyFrom_82 (fun H locs hP hD hS => ?_)
  exact x_vret X hr hlocks hP hD hS dX3_copyFrom_85

set_option maxHeartbeats 4000000 in
set_option maxRecDepth 100000 in
theorem c_X3_slipsOfGears (l : Launch) (g : wG) (t : Nat → Nat) (z sf wf sg : Nat → Int32) : CtI l g 0 yX3_slipsOfGears cX3_slipsOfGears 6 (some .int) [.ref (t 0)] (TW g t z sf wf sg) ((((0 + z 12) + z 19) + z 26) + z 33) (TW g t z sf wf sg) := by
  intro sz
  refine x_enter (Qc := fun A => QI g A ((((0 + z 12) + z 19) + z 26) + z 33) (TW g t z sf wf sg)) (by decide) (Nat.le_of_ble_eq_true rfl) ?_
  intro p e s m args below meth c X hr hlocks A hA hP hD hS ls hl
  obtain ⟨⟨hx, hb, hml, hown, hts⟩, hK, hN⟩ := id X
  have hl : lv_has ls 6 [(0, .ref (t 0))] := hl
  refine lv_iconst (v := 0) hx hb dX3_slipsOfGears_0 (by decide) ?_
  refine lv_istore_n (lv' := [(1, .int 0), (0, .ref (t 0))]) hx hb dX3_slipsOfGears_1 rfl hl (by decide) rfl (fun ls hl => ?_)
  refine lv_aload_n hx hb dX3_slipsOfGears_2 rfl (lv_at hl 1 rfl) ?_
  refine x_get (v := .ref (t 1)) X 0 0 in_X3 hP rfl rfl (by decide) wF_X3_11 rfl rfl dX3_slipsOfGears_3 ?_
  refine lv_astore_n (lv' := [(2, .ref (t 1)), (1, .int 0), (0, .ref (t 0))]) hx hb dX3_slipsOfGears_6 rfl hl (by decide) rfl (fun ls hl => ?_)
  refine lv_aload_n hx hb dX3_slipsOfGears_7 rfl (lv_at hl 0 rfl) ?_
  refine x_alen (v := 4) X 1 2 hP rfl rfl rfl dX3_slipsOfGears_8 ?_
  refine lv_istore_n (lv' := [(3, .int 4), (2, .ref (t 1)), (1, .int 0), (0, .ref (t 0))]) hx hb dX3_slipsOfGears_9 rfl hl (by decide) rfl (fun ls hl => ?_)
  refine lv_iconst (v := 0) hx hb dX3_slipsOfGears_10 (by decide) ?_
  refine lv_istore (lv' := [(4, .int 0), (3, .int 4), (2, .ref (t 1)), (1, .int 0), (0, .ref (t 0))]) hx hb dX3_slipsOfGears_11 hl (by decide) rfl (fun ls hl => ?_)
  refine lv_iload hx hb dX3_slipsOfGears_13 (lv_at hl 0 rfl) ?_
  refine lv_iload_n hx hb dX3_slipsOfGears_15 rfl (lv_at hl 1 rfl) ?_
  refine lv_icmp_ge (tgt := 39) hx hb dX3_slipsOfGears_16 (by decide) (fun q9 => absurd q9 (show ¬ (4 : Int32) ≤ (0 : Int32) from (by decide))) (fun c_1 => ?_)
  refine lv_aload_n hx hb dX3_slipsOfGears_19 rfl (lv_at hl 2 rfl) ?_
  refine lv_iload hx hb dX3_slipsOfGears_20 (lv_at hl 0 rfl) ?_
  refine x_aald (v := .ref (t 2)) X 1 2 0 hP rfl rfl rfl (by decide) (Nat.le_of_ble_eq_true rfl) rfl dX3_slipsOfGears_22 ?_
  refine lv_astore (lv' := [(5, .ref (t 2)), (4, .int 0), (3, .int 4), (2, .ref (t 1)), (1, .int 0), (0, .ref (t 0))]) hx hb dX3_slipsOfGears_23 hl (by decide) rfl (fun ls hl => ?_)
  refine lv_iload_n hx hb dX3_slipsOfGears_25 rfl (lv_at hl 4 rfl) ?_
  refine lv_aload hx hb dX3_slipsOfGears_26 (lv_at hl 0 rfl) ?_
  refine x_get (v := .int (z 12)) X 2 4 in_X0 hP rfl rfl (by decide) wF_X3_111 rfl rfl dX3_slipsOfGears_28 ?_
  refine lv_iadd hx hb dX3_slipsOfGears_31 ?_
  refine lv_istore_n (lv' := [(1, .int (0 + (z 12))), (5, .ref (t 2)), (4, .int 0), (3, .int 4), (2, .ref (t 1)), (0, .ref (t 0))]) hx hb dX3_slipsOfGears_32 rfl hl (by decide) rfl (fun ls hl => ?_)
  refine lv_iinc (v := 1) (lv' := [(4, .int 1), (1, .int (0 + (z 12))), (5, .ref (t 2)), (3, .int 4), (2, .ref (t 1)), (0, .ref (t 0))]) hx hb dX3_slipsOfGears_33 hl (k := 2) rfl rfl (by decide) rfl (fun ls hl => ?_)
  refine lv_goto (tgt := 13) hx hb dX3_slipsOfGears_36 (by decide) ?_
  refine lv_iload hx hb dX3_slipsOfGears_13 (lv_at hl 0 rfl) ?_
  refine lv_iload_n hx hb dX3_slipsOfGears_15 rfl (lv_at hl 3 rfl) ?_
  refine lv_icmp_ge (tgt := 39) hx hb dX3_slipsOfGears_16 (by decide) (fun q9 => absurd q9 (show ¬ (4 : Int32) ≤ (1 : Int32) from (by decide))) (fun c_2 => ?_)
  refine lv_aload_n hx hb dX3_slipsOfGears_19 rfl (lv_at hl 4 rfl) ?_
  refine lv_iload hx hb dX3_slipsOfGears_20 (lv_at hl 0 rfl) ?_
  refine x_aald (v := .ref (t 3)) X 1 2 1 hP rfl rfl rfl (by decide) (Nat.le_of_ble_eq_true rfl) rfl dX3_slipsOfGears_22 ?_
  refine lv_astore (lv' := [(5, .ref (t 3)), (4, .int 1), (1, .int (0 + (z 12))), (3, .int 4), (2, .ref (t 1)), (0, .ref (t 0))]) hx hb dX3_slipsOfGears_23 hl (by decide) rfl (fun ls hl => ?_)
  refine lv_iload_n hx hb dX3_slipsOfGears_25 rfl (lv_at hl 2 rfl) ?_
  refine lv_aload hx hb dX3_slipsOfGears_26 (lv_at hl 0 rfl) ?_
  refine x_get (v := .int (z 19)) X 3 4 in_X0 hP rfl rfl (by decide) wF_X3_111 rfl rfl dX3_slipsOfGears_28 ?_
  refine lv_iadd hx hb dX3_slipsOfGears_31 ?_
  refine lv_istore_n (lv' := [(1, .int ((0 + (z 12)) + (z 19))), (5, .ref (t 3)), (4, .int 1), (3, .int 4), (2, .ref (t 1)), (0, .ref (t 0))]) hx hb dX3_slipsOfGears_32 rfl hl (by decide) rfl (fun ls hl => ?_)
  refine lv_iinc (v := 2) (lv' := [(4, .int 2), (1, .int ((0 + (z 12)) + (z 19))), (5, .ref (t 3)), (3, .int 4), (2, .ref (t 1)), (0, .ref (t 0))]) hx hb dX3_slipsOfGears_33 hl (k := 2) rfl rfl (by decide) rfl (fun ls hl => ?_)
  refine lv_goto (tgt := 13) hx hb dX3_slipsOfGears_36 (by decide) ?_
  refine lv_iload hx hb dX3_slipsOfGears_13 (lv_at hl 0 rfl) ?_
  refine lv_iload_n hx hb dX3_slipsOfGears_15 rfl (lv_at hl 3 rfl) ?_
  refine lv_icmp_ge (tgt := 39) hx hb dX3_slipsOfGears_16 (by decide) (fun q9 => absurd q9 (show ¬ (4 : Int32) ≤ (2 : Int32) from (by decide))) (fun c_3 => ?_)
  refine lv_aload_n hx hb dX3_slipsOfGears_19 rfl (lv_at hl 4 rfl) ?_
  refine lv_iload hx hb dX3_slipsOfGears_20 (lv_at hl 0 rfl) ?_
  refine x_aald (v := .ref (t 4)) X 1 2 2 hP rfl rfl rfl (by decide) (Nat.le_of_ble_eq_true rfl) rfl dX3_slipsOfGears_22 ?_
  refine lv_astore (lv' := [(5, .ref (t 4)), (4, .int 2), (1, .int ((0 + (z 12)) + (z 19))), (3, .int 4), (2, .ref (t 1)), (0, .ref (t 0))]) hx hb dX3_slipsOfGears_23 hl (by decide) rfl (fun ls hl => ?_)
  refine lv_iload_n hx hb dX3_slipsOfGears_25 rfl (lv_at hl 2 rfl) ?_
  refine lv_aload hx hb dX3_slipsOfGears_26 (lv_at hl 0 rfl) ?_
  refine x_get (v := .int (z 26)) X 4 4 in_X0 hP rfl rfl (by decide) wF_X3_111 rfl rfl dX3_slipsOfGears_28 ?_
  refine lv_iadd hx hb dX3_slipsOfGears_31 ?_
  refine lv_istore_n (lv' := [(1, .int (((0 + (z 12)) + (z 19)) + (z 26))), (5, .ref (t 4)), (4, .int 2), (3, .int 4), (2, .ref (t 1)), (0, .ref (t 0))]) hx hb dX3_slipsOfGears_32 rfl hl (by decide) rfl (fun ls hl => ?_)
  refine lv_iinc (v := 3) (lv' := [(4, .int 3), (1, .int (((0 + (z 12)) + (z 19)) + (z 26))), (5, .ref (t 4)), (3, .int 4), (2, .ref (t 1)), (0, .ref (t 0))]) hx hb dX3_slipsOfGears_33 hl (k := 2) rfl rfl (by decide) rfl (fun ls hl => ?_)
  refine lv_goto (tgt := 13) hx hb dX3_slipsOfGears_36 (by decide) ?_
  refine lv_iload hx hb dX3_slipsOfGears_13 (lv_at hl 0 rfl) ?_
  refine lv_iload_n hx hb dX3_slipsOfGears_15 rfl (lv_at hl 3 rfl) ?_
  refine lv_icmp_ge (tgt := 39) hx hb dX3_slipsOfGears_16 (by decide) (fun q9 => absurd q9 (show ¬ (4 : Int32) ≤ (3 : Int32) from (by decide))) (fun c_4 => ?_)
  refine lv_aload_n hx hb dX3_slipsOfGears_19 rfl (lv_at hl 4 rfl) ?_
  refine lv_iload hx hb dX3_slipsOfGears_20 (lv_at hl 0 rfl) ?_
  refine x_aald (v := .ref (t 5)) X 1 2 3 hP rfl rfl rfl (by decide) (Nat.le_of_ble_eq_true rfl) rfl dX3_slipsOfGears_22 ?_
  refine lv_astore (lv' := [(5, .ref (t 5)), (4, .int 3), (1, .int (((0 + (z 12)) + (z 19)) + (z 26))), (3, .int 4), (2, .ref (t 1)), (0, .ref (t 0))]) hx hb dX3_slipsOfGears_23 hl (by decide) rfl (fun ls hl => ?_)
  refine lv_iload_n hx hb dX3_slipsOfGears_25 rfl (lv_at hl 2 rfl) ?_
  refine lv_aload hx hb dX3_slipsOfGears_26 (lv_at hl 0 rfl) ?_
  refine x_get (v := .int (z 33)) X 5 4 in_X0 hP rfl rfl (by decide) wF_X3_111 rfl rfl dX3_slipsOfGears_28 ?_
  refine lv_iadd hx hb dX3_slipsOfGears_31 ?_
  refine lv_istore_n (lv' := [(1, .int ((((0 + (z 12)) + (z 19)) + (z 26)) + (z 33))), (5, .ref (t 5)), (4, .int 3), (3, .int 4), (2, .ref (t 1)), (0, .ref (t 0))]) hx hb dX3_slipsOfGears_32 rfl hl (by decide) rfl (fun ls hl => ?_)
  refine lv_iinc (v := 4) (lv' := [(4, .int 4), (1, .int ((((0 + (z 12)) + (z 19)) + (z 26)) + (z 33))), (5, .ref (t 5)), (3, .int 4), (2, .ref (t 1)), (0, .ref (t 0))]) hx hb dX3_slipsOfGears_33 hl (k := 2) rfl rfl (by decide) rfl (fun ls hl => ?_)
  refine lv_goto (tgt := 13) hx hb dX3_slipsOfGears_36 (by decide) ?_
  refine lv_iload hx hb dX3_slipsOfGears_13 (lv_at hl 0 rfl) ?_
  refine lv_iload_n hx hb dX3_slipsOfGears_15 rfl (lv_at hl 3 rfl) ?_
  refine lv_icmp_ge (tgt := 39) hx hb dX3_slipsOfGears_16 (by decide) (fun c_5 => ?_) (fun q9 => absurd (show (4 : Int32) ≤ (4 : Int32) from (by decide)) (show ¬ ((4 : Int32) ≤ (4 : Int32)) from q9))
  refine lv_iload_n hx hb dX3_slipsOfGears_39 rfl (lv_at hl 1 rfl) ?_
  exact x_iret X hr hlocks hP hD hS rfl dX3_slipsOfGears_40

set_option maxHeartbeats 4000000 in
set_option maxRecDepth 100000 in
theorem c_X3_strikesOfBells (l : Launch) (g : wG) (t : Nat → Nat) (z sf wf sg : Nat → Int32) : CtI l g 0 yX3_strikesOfBells cX3_strikesOfBells 6 (some .int) [.ref (t 0)] (TW g t z sf wf sg) ((((0 + z 14) + z 21) + z 28) + z 35) (TW g t z sf wf sg) := by
  intro sz
  refine x_enter (Qc := fun A => QI g A ((((0 + z 14) + z 21) + z 28) + z 35) (TW g t z sf wf sg)) (by decide) (Nat.le_of_ble_eq_true rfl) ?_
  intro p e s m args below meth c X hr hlocks A hA hP hD hS ls hl
  obtain ⟨⟨hx, hb, hml, hown, hts⟩, hK, hN⟩ := id X
  have hl : lv_has ls 6 [(0, .ref (t 0))] := hl
  refine lv_iconst (v := 0) hx hb dX3_strikesOfBells_0 (by decide) ?_
  refine lv_istore_n (lv' := [(1, .int 0), (0, .ref (t 0))]) hx hb dX3_strikesOfBells_1 rfl hl (by decide) rfl (fun ls hl => ?_)
  refine lv_aload_n hx hb dX3_strikesOfBells_2 rfl (lv_at hl 1 rfl) ?_
  refine x_get (v := .ref (t 1)) X 0 0 in_X3 hP rfl rfl (by decide) wF_X3_11 rfl rfl dX3_strikesOfBells_3 ?_
  refine lv_astore_n (lv' := [(2, .ref (t 1)), (1, .int 0), (0, .ref (t 0))]) hx hb dX3_strikesOfBells_6 rfl hl (by decide) rfl (fun ls hl => ?_)
  refine lv_aload_n hx hb dX3_strikesOfBells_7 rfl (lv_at hl 0 rfl) ?_
  refine x_alen (v := 4) X 1 2 hP rfl rfl rfl dX3_strikesOfBells_8 ?_
  refine lv_istore_n (lv' := [(3, .int 4), (2, .ref (t 1)), (1, .int 0), (0, .ref (t 0))]) hx hb dX3_strikesOfBells_9 rfl hl (by decide) rfl (fun ls hl => ?_)
  refine lv_iconst (v := 0) hx hb dX3_strikesOfBells_10 (by decide) ?_
  refine lv_istore (lv' := [(4, .int 0), (3, .int 4), (2, .ref (t 1)), (1, .int 0), (0, .ref (t 0))]) hx hb dX3_strikesOfBells_11 hl (by decide) rfl (fun ls hl => ?_)
  refine lv_iload hx hb dX3_strikesOfBells_13 (lv_at hl 0 rfl) ?_
  refine lv_iload_n hx hb dX3_strikesOfBells_15 rfl (lv_at hl 1 rfl) ?_
  refine lv_icmp_ge (tgt := 39) hx hb dX3_strikesOfBells_16 (by decide) (fun q9 => absurd q9 (show ¬ (4 : Int32) ≤ (0 : Int32) from (by decide))) (fun c_1 => ?_)
  refine lv_aload_n hx hb dX3_strikesOfBells_19 rfl (lv_at hl 2 rfl) ?_
  refine lv_iload hx hb dX3_strikesOfBells_20 (lv_at hl 0 rfl) ?_
  refine x_aald (v := .ref (t 2)) X 1 2 0 hP rfl rfl rfl (by decide) (Nat.le_of_ble_eq_true rfl) rfl dX3_strikesOfBells_22 ?_
  refine lv_astore (lv' := [(5, .ref (t 2)), (4, .int 0), (3, .int 4), (2, .ref (t 1)), (1, .int 0), (0, .ref (t 0))]) hx hb dX3_strikesOfBells_23 hl (by decide) rfl (fun ls hl => ?_)
  refine lv_iload_n hx hb dX3_strikesOfBells_25 rfl (lv_at hl 4 rfl) ?_
  refine lv_aload hx hb dX3_strikesOfBells_26 (lv_at hl 0 rfl) ?_
  refine x_get (v := .int (z 14)) X 2 6 in_X0 hP rfl rfl (by decide) wF_X3_114 rfl rfl dX3_strikesOfBells_28 ?_
  refine lv_iadd hx hb dX3_strikesOfBells_31 ?_
  refine lv_istore_n (lv' := [(1, .int (0 + (z 14))), (5, .ref (t 2)), (4, .int 0), (3, .int 4), (2, .ref (t 1)), (0, .ref (t 0))]) hx hb dX3_strikesOfBells_32 rfl hl (by decide) rfl (fun ls hl => ?_)
  refine lv_iinc (v := 1) (lv' := [(4, .int 1), (1, .int (0 + (z 14))), (5, .ref (t 2)), (3, .int 4), (2, .ref (t 1)), (0, .ref (t 0))]) hx hb dX3_strikesOfBells_33 hl (k := 2) rfl rfl (by decide) rfl (fun ls hl => ?_)
  refine lv_goto (tgt := 13) hx hb dX3_strikesOfBells_36 (by decide) ?_
  refine lv_iload hx hb dX3_strikesOfBells_13 (lv_at hl 0 rfl) ?_
  refine lv_iload_n hx hb dX3_strikesOfBells_15 rfl (lv_at hl 3 rfl) ?_
  refine lv_icmp_ge (tgt := 39) hx hb dX3_strikesOfBells_16 (by decide) (fun q9 => absurd q9 (show ¬ (4 : Int32) ≤ (1 : Int32) from (by decide))) (fun c_2 => ?_)
  refine lv_aload_n hx hb dX3_strikesOfBells_19 rfl (lv_at hl 4 rfl) ?_
  refine lv_iload hx hb dX3_strikesOfBells_20 (lv_at hl 0 rfl) ?_
  refine x_aald (v := .ref (t 3)) X 1 2 1 hP rfl rfl rfl (by decide) (Nat.le_of_ble_eq_true rfl) rfl dX3_strikesOfBells_22 ?_
  refine lv_astore (lv' := [(5, .ref (t 3)), (4, .int 1), (1, .int (0 + (z 14))), (3, .int 4), (2, .ref (t 1)), (0, .ref (t 0))]) hx hb dX3_strikesOfBells_23 hl (by decide) rfl (fun ls hl => ?_)
  refine lv_iload_n hx hb dX3_strikesOfBells_25 rfl (lv_at hl 2 rfl) ?_
  refine lv_aload hx hb dX3_strikesOfBells_26 (lv_at hl 0 rfl) ?_
  refine x_get (v := .int (z 21)) X 3 6 in_X0 hP rfl rfl (by decide) wF_X3_114 rfl rfl dX3_strikesOfBells_28 ?_
  refine lv_iadd hx hb dX3_strikesOfBells_31 ?_
  refine lv_istore_n (lv' := [(1, .int ((0 + (z 14)) + (z 21))), (5, .ref (t 3)), (4, .int 1), (3, .int 4), (2, .ref (t 1)), (0, .ref (t 0))]) hx hb dX3_strikesOfBells_32 rfl hl (by decide) rfl (fun ls hl => ?_)
  refine lv_iinc (v := 2) (lv' := [(4, .int 2), (1, .int ((0 + (z 14)) + (z 21))), (5, .ref (t 3)), (3, .int 4), (2, .ref (t 1)), (0, .ref (t 0))]) hx hb dX3_strikesOfBells_33 hl (k := 2) rfl rfl (by decide) rfl (fun ls hl => ?_)
  refine lv_goto (tgt := 13) hx hb dX3_strikesOfBells_36 (by decide) ?_
  refine lv_iload hx hb dX3_strikesOfBells_13 (lv_at hl 0 rfl) ?_
  refine lv_iload_n hx hb dX3_strikesOfBells_15 rfl (lv_at hl 3 rfl) ?_
  refine lv_icmp_ge (tgt := 39) hx hb dX3_strikesOfBells_16 (by decide) (fun q9 => absurd q9 (show ¬ (4 : Int32) ≤ (2 : Int32) from (by decide))) (fun c_3 => ?_)
  refine lv_aload_n hx hb dX3_strikesOfBells_19 rfl (lv_at hl 4 rfl) ?_
  refine lv_iload hx hb dX3_strikesOfBells_20 (lv_at hl 0 rfl) ?_
  refine x_aald (v := .ref (t 4)) X 1 2 2 hP rfl rfl rfl (by decide) (Nat.le_of_ble_eq_true rfl) rfl dX3_strikesOfBells_22 ?_
  refine lv_astore (lv' := [(5, .ref (t 4)), (4, .int 2), (1, .int ((0 + (z 14)) + (z 21))), (3, .int 4), (2, .ref (t 1)), (0, .ref (t 0))]) hx hb dX3_strikesOfBells_23 hl (by decide) rfl (fun ls hl => ?_)
  refine lv_iload_n hx hb dX3_strikesOfBells_25 rfl (lv_at hl 2 rfl) ?_
  refine lv_aload hx hb dX3_strikesOfBells_26 (lv_at hl 0 rfl) ?_
  refine x_get (v := .int (z 28)) X 4 6 in_X0 hP rfl rfl (by decide) wF_X3_114 rfl rfl dX3_strikesOfBells_28 ?_
  refine lv_iadd hx hb dX3_strikesOfBells_31 ?_
  refine lv_istore_n (lv' := [(1, .int (((0 + (z 14)) + (z 21)) + (z 28))), (5, .ref (t 4)), (4, .int 2), (3, .int 4), (2, .ref (t 1)), (0, .ref (t 0))]) hx hb dX3_strikesOfBells_32 rfl hl (by decide) rfl (fun ls hl => ?_)
  refine lv_iinc (v := 3) (lv' := [(4, .int 3), (1, .int (((0 + (z 14)) + (z 21)) + (z 28))), (5, .ref (t 4)), (3, .int 4), (2, .ref (t 1)), (0, .ref (t 0))]) hx hb dX3_strikesOfBells_33 hl (k := 2) rfl rfl (by decide) rfl (fun ls hl => ?_)
  refine lv_goto (tgt := 13) hx hb dX3_strikesOfBells_36 (by decide) ?_
  refine lv_iload hx hb dX3_strikesOfBells_13 (lv_at hl 0 rfl) ?_
  refine lv_iload_n hx hb dX3_strikesOfBells_15 rfl (lv_at hl 3 rfl) ?_
  refine lv_icmp_ge (tgt := 39) hx hb dX3_strikesOfBells_16 (by decide) (fun q9 => absurd q9 (show ¬ (4 : Int32) ≤ (3 : Int32) from (by decide))) (fun c_4 => ?_)
  refine lv_aload_n hx hb dX3_strikesOfBells_19 rfl (lv_at hl 4 rfl) ?_
  refine lv_iload hx hb dX3_strikesOfBells_20 (lv_at hl 0 rfl) ?_
  refine x_aald (v := .ref (t 5)) X 1 2 3 hP rfl rfl rfl (by decide) (Nat.le_of_ble_eq_true rfl) rfl dX3_strikesOfBells_22 ?_
  refine lv_astore (lv' := [(5, .ref (t 5)), (4, .int 3), (1, .int (((0 + (z 14)) + (z 21)) + (z 28))), (3, .int 4), (2, .ref (t 1)), (0, .ref (t 0))]) hx hb dX3_strikesOfBells_23 hl (by decide) rfl (fun ls hl => ?_)
  refine lv_iload_n hx hb dX3_strikesOfBells_25 rfl (lv_at hl 2 rfl) ?_
  refine lv_aload hx hb dX3_strikesOfBells_26 (lv_at hl 0 rfl) ?_
  refine x_get (v := .int (z 35)) X 5 6 in_X0 hP rfl rfl (by decide) wF_X3_114 rfl rfl dX3_strikesOfBells_28 ?_
  refine lv_iadd hx hb dX3_strikesOfBells_31 ?_
  refine lv_istore_n (lv' := [(1, .int ((((0 + (z 14)) + (z 21)) + (z 28)) + (z 35))), (5, .ref (t 5)), (4, .int 3), (3, .int 4), (2, .ref (t 1)), (0, .ref (t 0))]) hx hb dX3_strikesOfBells_32 rfl hl (by decide) rfl (fun ls hl => ?_)
  refine lv_iinc (v := 4) (lv' := [(4, .int 4), (1, .int ((((0 + (z 14)) + (z 21)) + (z 28)) + (z 35))), (5, .ref (t 5)), (3, .int 4), (2, .ref (t 1)), (0, .ref (t 0))]) hx hb dX3_strikesOfBells_33 hl (k := 2) rfl rfl (by decide) rfl (fun ls hl => ?_)
  refine lv_goto (tgt := 13) hx hb dX3_strikesOfBells_36 (by decide) ?_
  refine lv_iload hx hb dX3_strikesOfBells_13 (lv_at hl 0 rfl) ?_
  refine lv_iload_n hx hb dX3_strikesOfBells_15 rfl (lv_at hl 3 rfl) ?_
  refine lv_icmp_ge (tgt := 39) hx hb dX3_strikesOfBells_16 (by decide) (fun c_5 => ?_) (fun q9 => absurd (show (4 : Int32) ≤ (4 : Int32) from (by decide)) (show ¬ ((4 : Int32) ≤ (4 : Int32)) from q9))
  refine lv_iload_n hx hb dX3_strikesOfBells_39 rfl (lv_at hl 1 rfl) ?_
  exact x_iret X hr hlocks hP hD hS rfl dX3_strikesOfBells_40

def dftC (z : Nat → Int32) : Int32 := (((0 + distC (z 8) (jrem (z 0) 720)) + distC (z 15) (jrem (z 0) 720)) + distC (z 22) (jrem (z 0) 720)) + distC (z 29) (jrem (z 0) 720)
set_option maxHeartbeats 4000000 in
set_option maxRecDepth 100000 in
theorem c_X3_distancesFromTime (l : Launch) (g : wG) (t : Nat → Nat) (z sf wf sg : Nat → Int32) : CtI l g 2 yX3_distancesFromTime cX3_distancesFromTime 6 (some .int) [.ref (t 0)] (TW g t z sf wf sg) (dftC z) (TW g t z sf wf sg) := by
  intro sz
  refine x_enter (Qc := fun A => QI g A (dftC z) (TW g t z sf wf sg)) (by decide) (Nat.le_of_ble_eq_true rfl) ?_
  intro p e s m args below meth c X hr hlocks A hA hP hD hS ls hl
  obtain ⟨⟨hx, hb, hml, hown, hts⟩, hK, hN⟩ := id X
  have hl : lv_has ls 6 [(0, .ref (t 0))] := hl
  refine lv_iconst (v := 0) hx hb dX3_distancesFromTime_0 (by decide) ?_
  refine lv_istore_n (lv' := [(1, .int 0), (0, .ref (t 0))]) hx hb dX3_distancesFromTime_1 rfl hl (by decide) rfl (fun ls hl => ?_)
  refine lv_aload_n hx hb dX3_distancesFromTime_2 rfl (lv_at hl 1 rfl) ?_
  refine x_get (v := .ref (t 1)) X 0 0 in_X3 hP rfl rfl (by decide) wF_X3_11 rfl rfl dX3_distancesFromTime_3 ?_
  refine lv_astore_n (lv' := [(2, .ref (t 1)), (1, .int 0), (0, .ref (t 0))]) hx hb dX3_distancesFromTime_6 rfl hl (by decide) rfl (fun ls hl => ?_)
  refine lv_aload_n hx hb dX3_distancesFromTime_7 rfl (lv_at hl 0 rfl) ?_
  refine x_alen (v := 4) X 1 2 hP rfl rfl rfl dX3_distancesFromTime_8 ?_
  refine lv_istore_n (lv' := [(3, .int 4), (2, .ref (t 1)), (1, .int 0), (0, .ref (t 0))]) hx hb dX3_distancesFromTime_9 rfl hl (by decide) rfl (fun ls hl => ?_)
  refine lv_iconst (v := 0) hx hb dX3_distancesFromTime_10 (by decide) ?_
  refine lv_istore (lv' := [(4, .int 0), (3, .int 4), (2, .ref (t 1)), (1, .int 0), (0, .ref (t 0))]) hx hb dX3_distancesFromTime_11 hl (by decide) rfl (fun ls hl => ?_)
  refine lv_iload hx hb dX3_distancesFromTime_13 (lv_at hl 0 rfl) ?_
  refine lv_iload_n hx hb dX3_distancesFromTime_15 rfl (lv_at hl 1 rfl) ?_
  refine lv_icmp_ge (tgt := 50) hx hb dX3_distancesFromTime_16 (by decide) (fun q9 => absurd q9 (show ¬ (4 : Int32) ≤ (0 : Int32) from (by decide))) (fun c_1 => ?_)
  refine lv_aload_n hx hb dX3_distancesFromTime_19 rfl (lv_at hl 2 rfl) ?_
  refine lv_iload hx hb dX3_distancesFromTime_20 (lv_at hl 0 rfl) ?_
  refine x_aald (v := .ref (t 2)) X 1 2 0 hP rfl rfl rfl (by decide) (Nat.le_of_ble_eq_true rfl) rfl dX3_distancesFromTime_22 ?_
  refine lv_astore (lv' := [(5, .ref (t 2)), (4, .int 0), (3, .int 4), (2, .ref (t 1)), (1, .int 0), (0, .ref (t 0))]) hx hb dX3_distancesFromTime_23 hl (by decide) rfl (fun ls hl => ?_)
  refine lv_iload_n hx hb dX3_distancesFromTime_25 rfl (lv_at hl 4 rfl) ?_
  refine lv_aload hx hb dX3_distancesFromTime_26 (lv_at hl 0 rfl) ?_
  refine x_get (v := .int (z 8)) X 2 0 in_X0 hP rfl rfl (by decide) wF_X3_102 rfl rfl dX3_distancesFromTime_28 ?_
  refine lv_aload_n hx hb dX3_distancesFromTime_31 rfl (lv_at hl 5 rfl) ?_
  refine x_get (v := .int (z 0)) X 0 3 in_X3 hP rfl rfl (by decide) wF_X3_47 rfl rfl dX3_distancesFromTime_32 ?_
  refine lv_sipush (v := 720) hx hb dX3_distancesFromTime_35 (by decide) ?_
  refine lv_irem hx hb dX3_distancesFromTime_38 (by decide) ?_
  refine x_goI (wn := TW g t z sf wf sg) (x_rN (As := [.int (z 8), .int (jrem (z 0) 720)]) X (c_X5_distance l g (z 8) (jrem (z 0) 720) _) yf_X5_distance ys_X5_distance hN.2.2.1 ⟨Nat.le_of_ble_eq_true rfl, Nat.le_of_ble_eq_true rfl⟩ hP hD (p_none _) hl rfl rfl (Nat.le_of_ble_eq_true rfl) dX3_distancesFromTime_39 ⟨Nat.zero_le _, Nat.zero_le _⟩) hP hD hS hA (p_none _) (p_noneB _) (fun H locs hP hD hS => ?_)
  refine lv_iadd hx hb dX3_distancesFromTime_42 ?_
  refine lv_istore_n (lv' := [(1, .int (0 + (distC (z 8) (jrem (z 0) 720)))), (5, .ref (t 2)), (4, .int 0), (3, .int 4), (2, .ref (t 1)), (0, .ref (t 0))]) hx hb dX3_distancesFromTime_43 rfl hl (by decide) rfl (fun ls hl => ?_)
  refine lv_iinc (v := 1) (lv' := [(4, .int 1), (1, .int (0 + (distC (z 8) (jrem (z 0) 720)))), (5, .ref (t 2)), (3, .int 4), (2, .ref (t 1)), (0, .ref (t 0))]) hx hb dX3_distancesFromTime_44 hl (k := 2) rfl rfl (by decide) rfl (fun ls hl => ?_)
  refine lv_goto (tgt := 13) hx hb dX3_distancesFromTime_47 (by decide) ?_
  refine lv_iload hx hb dX3_distancesFromTime_13 (lv_at hl 0 rfl) ?_
  refine lv_iload_n hx hb dX3_distancesFromTime_15 rfl (lv_at hl 3 rfl) ?_
  refine lv_icmp_ge (tgt := 50) hx hb dX3_distancesFromTime_16 (by decide) (fun q9 => absurd q9 (show ¬ (4 : Int32) ≤ (1 : Int32) from (by decide))) (fun c_2 => ?_)
  refine lv_aload_n hx hb dX3_distancesFromTime_19 rfl (lv_at hl 4 rfl) ?_
  refine lv_iload hx hb dX3_distancesFromTime_20 (lv_at hl 0 rfl) ?_
  refine x_aald (v := .ref (t 3)) X 1 2 1 hP rfl rfl rfl (by decide) (Nat.le_of_ble_eq_true rfl) rfl dX3_distancesFromTime_22 ?_
  refine lv_astore (lv' := [(5, .ref (t 3)), (4, .int 1), (1, .int (0 + (distC (z 8) (jrem (z 0) 720)))), (3, .int 4), (2, .ref (t 1)), (0, .ref (t 0))]) hx hb dX3_distancesFromTime_23 hl (by decide) rfl (fun ls hl => ?_)
  refine lv_iload_n hx hb dX3_distancesFromTime_25 rfl (lv_at hl 2 rfl) ?_
  refine lv_aload hx hb dX3_distancesFromTime_26 (lv_at hl 0 rfl) ?_
  refine x_get (v := .int (z 15)) X 3 0 in_X0 hP rfl rfl (by decide) wF_X3_102 rfl rfl dX3_distancesFromTime_28 ?_
  refine lv_aload_n hx hb dX3_distancesFromTime_31 rfl (lv_at hl 5 rfl) ?_
  refine x_get (v := .int (z 0)) X 0 3 in_X3 hP rfl rfl (by decide) wF_X3_47 rfl rfl dX3_distancesFromTime_32 ?_
  refine lv_sipush (v := 720) hx hb dX3_distancesFromTime_35 (by decide) ?_
  refine lv_irem hx hb dX3_distancesFromTime_38 (by decide) ?_
  refine x_goI (wn := TW g t z sf wf sg) (x_rN (As := [.int (z 15), .int (jrem (z 0) 720)]) X (c_X5_distance l g (z 15) (jrem (z 0) 720) _) yf_X5_distance ys_X5_distance hN.2.2.1 ⟨Nat.le_of_ble_eq_true rfl, Nat.le_of_ble_eq_true rfl⟩ hP hD (p_none _) hl rfl rfl (Nat.le_of_ble_eq_true rfl) dX3_distancesFromTime_39 ⟨Nat.zero_le _, Nat.zero_le _⟩) hP hD hS hA (p_none _) (p_noneB _) (fun H locs hP hD hS => ?_)
  refine lv_iadd hx hb dX3_distancesFromTime_42 ?_
  refine lv_istore_n (lv' := [(1, .int ((0 + (distC (z 8) (jrem (z 0) 720))) + (distC (z 15) (jrem (z 0) 720)))), (5, .ref (t 3)), (4, .int 1), (3, .int 4), (2, .ref (t 1)), (0, .ref (t 0))]) hx hb dX3_distancesFromTime_43 rfl hl (by decide) rfl (fun ls hl => ?_)
  refine lv_iinc (v := 2) (lv' := [(4, .int 2), (1, .int ((0 + (distC (z 8) (jrem (z 0) 720))) + (distC (z 15) (jrem (z 0) 720)))), (5, .ref (t 3)), (3, .int 4), (2, .ref (t 1)), (0, .ref (t 0))]) hx hb dX3_distancesFromTime_44 hl (k := 2) rfl rfl (by decide) rfl (fun ls hl => ?_)
  refine lv_goto (tgt := 13) hx hb dX3_distancesFromTime_47 (by decide) ?_
  refine lv_iload hx hb dX3_distancesFromTime_13 (lv_at hl 0 rfl) ?_
  refine lv_iload_n hx hb dX3_distancesFromTime_15 rfl (lv_at hl 3 rfl) ?_
  refine lv_icmp_ge (tgt := 50) hx hb dX3_distancesFromTime_16 (by decide) (fun q9 => absurd q9 (show ¬ (4 : Int32) ≤ (2 : Int32) from (by decide))) (fun c_3 => ?_)
  refine lv_aload_n hx hb dX3_distancesFromTime_19 rfl (lv_at hl 4 rfl) ?_
  refine lv_iload hx hb dX3_distancesFromTime_20 (lv_at hl 0 rfl) ?_
  refine x_aald (v := .ref (t 4)) X 1 2 2 hP rfl rfl rfl (by decide) (Nat.le_of_ble_eq_true rfl) rfl dX3_distancesFromTime_22 ?_
  refine lv_astore (lv' := [(5, .ref (t 4)), (4, .int 2), (1, .int ((0 + (distC (z 8) (jrem (z 0) 720))) + (distC (z 15) (jrem (z 0) 720)))), (3, .int 4), (2, .ref (t 1)), (0, .ref (t 0))]) hx hb dX3_distancesFromTime_23 hl (by decide) rfl (fun ls hl => ?_)
  refine lv_iload_n hx hb dX3_distancesFromTime_25 rfl (lv_at hl 2 rfl) ?_
  refine lv_aload hx hb dX3_distancesFromTime_26 (lv_at hl 0 rfl) ?_
  refine x_get (v := .int (z 22)) X 4 0 in_X0 hP rfl rfl (by decide) wF_X3_102 rfl rfl dX3_distancesFromTime_28 ?_
  refine lv_aload_n hx hb dX3_distancesFromTime_31 rfl (lv_at hl 5 rfl) ?_
  refine x_get (v := .int (z 0)) X 0 3 in_X3 hP rfl rfl (by decide) wF_X3_47 rfl rfl dX3_distancesFromTime_32 ?_
  refine lv_sipush (v := 720) hx hb dX3_distancesFromTime_35 (by decide) ?_
  refine lv_irem hx hb dX3_distancesFromTime_38 (by decide) ?_
  refine x_goI (wn := TW g t z sf wf sg) (x_rN (As := [.int (z 22), .int (jrem (z 0) 720)]) X (c_X5_distance l g (z 22) (jrem (z 0) 720) _) yf_X5_distance ys_X5_distance hN.2.2.1 ⟨Nat.le_of_ble_eq_true rfl, Nat.le_of_ble_eq_true rfl⟩ hP hD (p_none _) hl rfl rfl (Nat.le_of_ble_eq_true rfl) dX3_distancesFromTime_39 ⟨Nat.zero_le _, Nat.zero_le _⟩) hP hD hS hA (p_none _) (p_noneB _) (fun H locs hP hD hS => ?_)
  refine lv_iadd hx hb dX3_distancesFromTime_42 ?_
  refine lv_istore_n (lv' := [(1, .int (((0 + (distC (z 8) (jrem (z 0) 720))) + (distC (z 15) (jrem (z 0) 720))) + (distC (z 22) (jrem (z 0) 720)))), (5, .ref (t 4)), (4, .int 2), (3, .int 4), (2, .ref (t 1)), (0, .ref (t 0))]) hx hb dX3_distancesFromTime_43 rfl hl (by decide) rfl (fun ls hl => ?_)
  refine lv_iinc (v := 3) (lv' := [(4, .int 3), (1, .int (((0 + (distC (z 8) (jrem (z 0) 720))) + (distC (z 15) (jrem (z 0) 720))) + (distC (z 22) (jrem (z 0) 720)))), (5, .ref (t 4)), (3, .int 4), (2, .ref (t 1)), (0, .ref (t 0))]) hx hb dX3_distancesFromTime_44 hl (k := 2) rfl rfl (by decide) rfl (fun ls hl => ?_)
  refine lv_goto (tgt := 13) hx hb dX3_distancesFromTime_47 (by decide) ?_
  refine lv_iload hx hb dX3_distancesFromTime_13 (lv_at hl 0 rfl) ?_
  refine lv_iload_n hx hb dX3_distancesFromTime_15 rfl (lv_at hl 3 rfl) ?_
  refine lv_icmp_ge (tgt := 50) hx hb dX3_distancesFromTime_16 (by decide) (fun q9 => absurd q9 (show ¬ (4 : Int32) ≤ (3 : Int32) from (by decide))) (fun c_4 => ?_)
  refine lv_aload_n hx hb dX3_distancesFromTime_19 rfl (lv_at hl 4 rfl) ?_
  refine lv_iload hx hb dX3_distancesFromTime_20 (lv_at hl 0 rfl) ?_
  refine x_aald (v := .ref (t 5)) X 1 2 3 hP rfl rfl rfl (by decide) (Nat.le_of_ble_eq_true rfl) rfl dX3_distancesFromTime_22 ?_
  refine lv_astore (lv' := [(5, .ref (t 5)), (4, .int 3), (1, .int (((0 + (distC (z 8) (jrem (z 0) 720))) + (distC (z 15) (jrem (z 0) 720))) + (distC (z 22) (jrem (z 0) 720)))), (3, .int 4), (2, .ref (t 1)), (0, .ref (t 0))]) hx hb dX3_distancesFromTime_23 hl (by decide) rfl (fun ls hl => ?_)
  refine lv_iload_n hx hb dX3_distancesFromTime_25 rfl (lv_at hl 2 rfl) ?_
  refine lv_aload hx hb dX3_distancesFromTime_26 (lv_at hl 0 rfl) ?_
  refine x_get (v := .int (z 29)) X 5 0 in_X0 hP rfl rfl (by decide) wF_X3_102 rfl rfl dX3_distancesFromTime_28 ?_
  refine lv_aload_n hx hb dX3_distancesFromTime_31 rfl (lv_at hl 5 rfl) ?_
  refine x_get (v := .int (z 0)) X 0 3 in_X3 hP rfl rfl (by decide) wF_X3_47 rfl rfl dX3_distancesFromTime_32 ?_
  refine lv_sipush (v := 720) hx hb dX3_distancesFromTime_35 (by decide) ?_
  refine lv_irem hx hb dX3_distancesFromTime_38 (by decide) ?_
  refine x_goI (wn := TW g t z sf wf sg) (x_rN (As := [.int (z 29), .int (jrem (z 0) 720)]) X (c_X5_distance l g (z 29) (jrem (z 0) 720) _) yf_X5_distance ys_X5_distance hN.2.2.1 ⟨Nat.le_of_ble_eq_true rfl, Nat.le_of_ble_eq_true rfl⟩ hP hD (p_none _) hl rfl rfl (Nat.le_of_ble_eq_true rfl) dX3_distancesFromTime_39 ⟨Nat.zero_le _, Nat.zero_le _⟩) hP hD hS hA (p_none _) (p_noneB _) (fun H locs hP hD hS => ?_)
  refine lv_iadd hx hb dX3_distancesFromTime_42 ?_
  refine lv_istore_n (lv' := [(1, .int ((((0 + (distC (z 8) (jrem (z 0) 720))) + (distC (z 15) (jrem (z 0) 720))) + (distC (z 22) (jrem (z 0) 720))) + (distC (z 29) (jrem (z 0) 720)))), (5, .ref (t 5)), (4, .int 3), (3, .int 4), (2, .ref (t 1)), (0, .ref (t 0))]) hx hb dX3_distancesFromTime_43 rfl hl (by decide) rfl (fun ls hl => ?_)
  refine lv_iinc (v := 4) (lv' := [(4, .int 4), (1, .int ((((0 + (distC (z 8) (jrem (z 0) 720))) + (distC (z 15) (jrem (z 0) 720))) + (distC (z 22) (jrem (z 0) 720))) + (distC (z 29) (jrem (z 0) 720)))), (5, .ref (t 5)), (3, .int 4), (2, .ref (t 1)), (0, .ref (t 0))]) hx hb dX3_distancesFromTime_44 hl (k := 2) rfl rfl (by decide) rfl (fun ls hl => ?_)
  refine lv_goto (tgt := 13) hx hb dX3_distancesFromTime_47 (by decide) ?_
  refine lv_iload hx hb dX3_distancesFromTime_13 (lv_at hl 0 rfl) ?_
  refine lv_iload_n hx hb dX3_distancesFromTime_15 rfl (lv_at hl 3 rfl) ?_
  refine lv_icmp_ge (tgt := 50) hx hb dX3_distancesFromTime_16 (by decide) (fun c_5 => ?_) (fun q9 => absurd (show (4 : Int32) ≤ (4 : Int32) from (by decide)) (show ¬ ((4 : Int32) ≤ (4 : Int32)) from q9))
  refine lv_iload_n hx hb dX3_distancesFromTime_50 rfl (lv_at hl 1 rfl) ?_
  exact x_iret X hr hlocks hP hD hS rfl dX3_distancesFromTime_51

def spC (z : Nat → Int32) : Int32 := (jmax (jmax (jmax (jmax (jmax (jmax (jmax (jmax (jmax (jmax (jmax (jmax (jmax (jmax (jmax (jmax 0 (distC (z 8) (z 8))) (distC (z 8) (z 15))) (distC (z 8) (z 22))) (distC (z 8) (z 29))) (distC (z 15) (z 8))) (distC (z 15) (z 15))) (distC (z 15) (z 22))) (distC (z 15) (z 29))) (distC (z 22) (z 8))) (distC (z 22) (z 15))) (distC (z 22) (z 22))) (distC (z 22) (z 29))) (distC (z 29) (z 8))) (distC (z 29) (z 15))) (distC (z 29) (z 22))) (distC (z 29) (z 29)))
set_option maxHeartbeats 4000000 in
set_option maxRecDepth 100000 in
theorem c_X3_spread (l : Launch) (g : wG) (t : Nat → Nat) (z sf wf sg : Nat → Int32) : CtI l g 2 yX3_spread cX3_spread 10 (some .int) [.ref (t 0)] (TW g t z sf wf sg) (spC z) (TW g t z sf wf sg) := by
  intro sz
  refine x_enter (Qc := fun A => QI g A (spC z) (TW g t z sf wf sg)) (by decide) (Nat.le_of_ble_eq_true rfl) ?_
  intro p e s m args below meth c X hr hlocks A hA hP hD hS ls hl
  obtain ⟨⟨hx, hb, hml, hown, hts⟩, hK, hN⟩ := id X
  have hl : lv_has ls 10 [(0, .ref (t 0))] := hl
  refine lv_iconst (v := 0) hx hb dX3_spread_0 (by decide) ?_
  refine lv_istore_n (lv' := [(1, .int 0), (0, .ref (t 0))]) hx hb dX3_spread_1 rfl hl (by decide) rfl (fun ls hl => ?_)
  refine lv_aload_n hx hb dX3_spread_2 rfl (lv_at hl 1 rfl) ?_
  refine x_get (v := .ref (t 1)) X 0 0 in_X3 hP rfl rfl (by decide) wF_X3_11 rfl rfl dX3_spread_3 ?_
  refine lv_astore_n (lv' := [(2, .ref (t 1)), (1, .int 0), (0, .ref (t 0))]) hx hb dX3_spread_6 rfl hl (by decide) rfl (fun ls hl => ?_)
  refine lv_aload_n hx hb dX3_spread_7 rfl (lv_at hl 0 rfl) ?_
  refine x_alen (v := 4) X 1 2 hP rfl rfl rfl dX3_spread_8 ?_
  refine lv_istore_n (lv' := [(3, .int 4), (2, .ref (t 1)), (1, .int 0), (0, .ref (t 0))]) hx hb dX3_spread_9 rfl hl (by decide) rfl (fun ls hl => ?_)
  refine lv_iconst (v := 0) hx hb dX3_spread_10 (by decide) ?_
  refine lv_istore (lv' := [(4, .int 0), (3, .int 4), (2, .ref (t 1)), (1, .int 0), (0, .ref (t 0))]) hx hb dX3_spread_11 hl (by decide) rfl (fun ls hl => ?_)
  refine lv_iload hx hb dX3_spread_13 (lv_at hl 0 rfl) ?_
  refine lv_iload_n hx hb dX3_spread_15 rfl (lv_at hl 1 rfl) ?_
  refine lv_icmp_ge (tgt := 83) hx hb dX3_spread_16 (by decide) (fun q9 => absurd q9 (show ¬ (4 : Int32) ≤ (0 : Int32) from (by decide))) (fun c_1 => ?_)
  refine lv_aload_n hx hb dX3_spread_19 rfl (lv_at hl 2 rfl) ?_
  refine lv_iload hx hb dX3_spread_20 (lv_at hl 0 rfl) ?_
  refine x_aald (v := .ref (t 2)) X 1 2 0 hP rfl rfl rfl (by decide) (Nat.le_of_ble_eq_true rfl) rfl dX3_spread_22 ?_
  refine lv_astore (lv' := [(5, .ref (t 2)), (4, .int 0), (3, .int 4), (2, .ref (t 1)), (1, .int 0), (0, .ref (t 0))]) hx hb dX3_spread_23 hl (by decide) rfl (fun ls hl => ?_)
  refine lv_aload_n hx hb dX3_spread_25 rfl (lv_at hl 5 rfl) ?_
  refine x_get (v := .ref (t 1)) X 0 0 in_X3 hP rfl rfl (by decide) wF_X3_11 rfl rfl dX3_spread_26 ?_
  refine lv_astore (lv' := [(6, .ref (t 1)), (5, .ref (t 2)), (4, .int 0), (3, .int 4), (2, .ref (t 1)), (1, .int 0), (0, .ref (t 0))]) hx hb dX3_spread_29 hl (by decide) rfl (fun ls hl => ?_)
  refine lv_aload hx hb dX3_spread_31 (lv_at hl 0 rfl) ?_
  refine x_alen (v := 4) X 1 2 hP rfl rfl rfl dX3_spread_33 ?_
  refine lv_istore (lv' := [(7, .int 4), (6, .ref (t 1)), (5, .ref (t 2)), (4, .int 0), (3, .int 4), (2, .ref (t 1)), (1, .int 0), (0, .ref (t 0))]) hx hb dX3_spread_34 hl (by decide) rfl (fun ls hl => ?_)
  refine lv_iconst (v := 0) hx hb dX3_spread_36 (by decide) ?_
  refine lv_istore (lv' := [(8, .int 0), (7, .int 4), (6, .ref (t 1)), (5, .ref (t 2)), (4, .int 0), (3, .int 4), (2, .ref (t 1)), (1, .int 0), (0, .ref (t 0))]) hx hb dX3_spread_37 hl (by decide) rfl (fun ls hl => ?_)
  refine lv_iload hx hb dX3_spread_39 (lv_at hl 0 rfl) ?_
  refine lv_iload hx hb dX3_spread_41 (lv_at hl 1 rfl) ?_
  refine lv_icmp_ge (tgt := 77) hx hb dX3_spread_43 (by decide) (fun q9 => absurd q9 (show ¬ (4 : Int32) ≤ (0 : Int32) from (by decide))) (fun c_2 => ?_)
  refine lv_aload hx hb dX3_spread_46 (lv_at hl 2 rfl) ?_
  refine lv_iload hx hb dX3_spread_48 (lv_at hl 0 rfl) ?_
  refine x_aald (v := .ref (t 2)) X 1 2 0 hP rfl rfl rfl (by decide) (Nat.le_of_ble_eq_true rfl) rfl dX3_spread_50 ?_
  refine lv_astore (lv' := [(9, .ref (t 2)), (8, .int 0), (7, .int 4), (6, .ref (t 1)), (5, .ref (t 2)), (4, .int 0), (3, .int 4), (2, .ref (t 1)), (1, .int 0), (0, .ref (t 0))]) hx hb dX3_spread_51 hl (by decide) rfl (fun ls hl => ?_)
  refine lv_iload_n hx hb dX3_spread_53 rfl (lv_at hl 8 rfl) ?_
  refine lv_aload hx hb dX3_spread_54 (lv_at hl 4 rfl) ?_
  refine x_get (v := .int (z 8)) X 2 0 in_X0 hP rfl rfl (by decide) wF_X3_102 rfl rfl dX3_spread_56 ?_
  refine lv_aload hx hb dX3_spread_59 (lv_at hl 0 rfl) ?_
  refine x_get (v := .int (z 8)) X 2 0 in_X0 hP rfl rfl (by decide) wF_X3_102 rfl rfl dX3_spread_61 ?_
  refine x_goI (wn := TW g t z sf wf sg) (x_rN (As := [.int (z 8), .int (z 8)]) X (c_X5_distance l g (z 8) (z 8) _) yf_X5_distance ys_X5_distance hN.2.2.1 ⟨Nat.le_of_ble_eq_true rfl, Nat.le_of_ble_eq_true rfl⟩ hP hD (p_none _) hl rfl rfl (Nat.le_of_ble_eq_true rfl) dX3_spread_64 ⟨Nat.zero_le _, Nat.zero_le _⟩) hP hD hS hA (p_none _) (p_noneB _) (fun H locs hP hD hS => ?_)
  refine x_max X hl wM_X3_117 mk_max wI_RJ9 ⟨Nat.le_of_ble_eq_true rfl, Nat.le_of_ble_eq_true rfl⟩ ⟨Nat.zero_le _, Nat.zero_le _⟩ dX3_spread_67 ?_
  refine lv_istore_n (lv' := [(1, .int (jmax 0 (distC (z 8) (z 8)))), (9, .ref (t 2)), (8, .int 0), (7, .int 4), (6, .ref (t 1)), (5, .ref (t 2)), (4, .int 0), (3, .int 4), (2, .ref (t 1)), (0, .ref (t 0))]) hx hb dX3_spread_70 rfl hl (by decide) rfl (fun ls hl => ?_)
  refine lv_iinc (v := 1) (lv' := [(8, .int 1), (1, .int (jmax 0 (distC (z 8) (z 8)))), (9, .ref (t 2)), (7, .int 4), (6, .ref (t 1)), (5, .ref (t 2)), (4, .int 0), (3, .int 4), (2, .ref (t 1)), (0, .ref (t 0))]) hx hb dX3_spread_71 hl (k := 2) rfl rfl (by decide) rfl (fun ls hl => ?_)
  refine lv_goto (tgt := 39) hx hb dX3_spread_74 (by decide) ?_
  refine lv_iload hx hb dX3_spread_39 (lv_at hl 0 rfl) ?_
  refine lv_iload hx hb dX3_spread_41 (lv_at hl 3 rfl) ?_
  refine lv_icmp_ge (tgt := 77) hx hb dX3_spread_43 (by decide) (fun q9 => absurd q9 (show ¬ (4 : Int32) ≤ (1 : Int32) from (by decide))) (fun c_3 => ?_)
  refine lv_aload hx hb dX3_spread_46 (lv_at hl 4 rfl) ?_
  refine lv_iload hx hb dX3_spread_48 (lv_at hl 0 rfl) ?_
  refine x_aald (v := .ref (t 3)) X 1 2 1 hP rfl rfl rfl (by decide) (Nat.le_of_ble_eq_true rfl) rfl dX3_spread_50 ?_
  refine lv_astore (lv' := [(9, .ref (t 3)), (8, .int 1), (1, .int (jmax 0 (distC (z 8) (z 8)))), (7, .int 4), (6, .ref (t 1)), (5, .ref (t 2)), (4, .int 0), (3, .int 4), (2, .ref (t 1)), (0, .ref (t 0))]) hx hb dX3_spread_51 hl (by decide) rfl (fun ls hl => ?_)
  refine lv_iload_n hx hb dX3_spread_53 rfl (lv_at hl 2 rfl) ?_
  refine lv_aload hx hb dX3_spread_54 (lv_at hl 5 rfl) ?_
  refine x_get (v := .int (z 8)) X 2 0 in_X0 hP rfl rfl (by decide) wF_X3_102 rfl rfl dX3_spread_56 ?_
  refine lv_aload hx hb dX3_spread_59 (lv_at hl 0 rfl) ?_
  refine x_get (v := .int (z 15)) X 3 0 in_X0 hP rfl rfl (by decide) wF_X3_102 rfl rfl dX3_spread_61 ?_
  refine x_goI (wn := TW g t z sf wf sg) (x_rN (As := [.int (z 8), .int (z 15)]) X (c_X5_distance l g (z 8) (z 15) _) yf_X5_distance ys_X5_distance hN.2.2.1 ⟨Nat.le_of_ble_eq_true rfl, Nat.le_of_ble_eq_true rfl⟩ hP hD (p_none _) hl rfl rfl (Nat.le_of_ble_eq_true rfl) dX3_spread_64 ⟨Nat.zero_le _, Nat.zero_le _⟩) hP hD hS hA (p_none _) (p_noneB _) (fun H locs hP hD hS => ?_)
  refine x_max X hl wM_X3_117 mk_max wI_RJ9 ⟨Nat.le_of_ble_eq_true rfl, Nat.le_of_ble_eq_true rfl⟩ ⟨Nat.zero_le _, Nat.zero_le _⟩ dX3_spread_67 ?_
  refine lv_istore_n (lv' := [(1, .int (jmax (jmax 0 (distC (z 8) (z 8))) (distC (z 8) (z 15)))), (9, .ref (t 3)), (8, .int 1), (7, .int 4), (6, .ref (t 1)), (5, .ref (t 2)), (4, .int 0), (3, .int 4), (2, .ref (t 1)), (0, .ref (t 0))]) hx hb dX3_spread_70 rfl hl (by decide) rfl (fun ls hl => ?_)
  refine lv_iinc (v := 2) (lv' := [(8, .int 2), (1, .int (jmax (jmax 0 (distC (z 8) (z 8))) (distC (z 8) (z 15)))), (9, .ref (t 3)), (7, .int 4), (6, .ref (t 1)), (5, .ref (t 2)), (4, .int 0), (3, .int 4), (2, .ref (t 1)), (0, .ref (t 0))]) hx hb dX3_spread_71 hl (k := 2) rfl rfl (by decide) rfl (fun ls hl => ?_)
  refine lv_goto (tgt := 39) hx hb dX3_spread_74 (by decide) ?_
  refine lv_iload hx hb dX3_spread_39 (lv_at hl 0 rfl) ?_
  refine lv_iload hx hb dX3_spread_41 (lv_at hl 3 rfl) ?_
  refine lv_icmp_ge (tgt := 77) hx hb dX3_spread_43 (by decide) (fun q9 => absurd q9 (show ¬ (4 : Int32) ≤ (2 : Int32) from (by decide))) (fun c_4 => ?_)
  refine lv_aload hx hb dX3_spread_46 (lv_at hl 4 rfl) ?_
  refine lv_iload hx hb dX3_spread_48 (lv_at hl 0 rfl) ?_
  refine x_aald (v := .ref (t 4)) X 1 2 2 hP rfl rfl rfl (by decide) (Nat.le_of_ble_eq_true rfl) rfl dX3_spread_50 ?_
  refine lv_astore (lv' := [(9, .ref (t 4)), (8, .int 2), (1, .int (jmax (jmax 0 (distC (z 8) (z 8))) (distC (z 8) (z 15)))), (7, .int 4), (6, .ref (t 1)), (5, .ref (t 2)), (4, .int 0), (3, .int 4), (2, .ref (t 1)), (0, .ref (t 0))]) hx hb dX3_spread_51 hl (by decide) rfl (fun ls hl => ?_)
  refine lv_iload_n hx hb dX3_spread_53 rfl (lv_at hl 2 rfl) ?_
  refine lv_aload hx hb dX3_spread_54 (lv_at hl 5 rfl) ?_
  refine x_get (v := .int (z 8)) X 2 0 in_X0 hP rfl rfl (by decide) wF_X3_102 rfl rfl dX3_spread_56 ?_
  refine lv_aload hx hb dX3_spread_59 (lv_at hl 0 rfl) ?_
  refine x_get (v := .int (z 22)) X 4 0 in_X0 hP rfl rfl (by decide) wF_X3_102 rfl rfl dX3_spread_61 ?_
  refine x_goI (wn := TW g t z sf wf sg) (x_rN (As := [.int (z 8), .int (z 22)]) X (c_X5_distance l g (z 8) (z 22) _) yf_X5_distance ys_X5_distance hN.2.2.1 ⟨Nat.le_of_ble_eq_true rfl, Nat.le_of_ble_eq_true rfl⟩ hP hD (p_none _) hl rfl rfl (Nat.le_of_ble_eq_true rfl) dX3_spread_64 ⟨Nat.zero_le _, Nat.zero_le _⟩) hP hD hS hA (p_none _) (p_noneB _) (fun H locs hP hD hS => ?_)
  refine x_max X hl wM_X3_117 mk_max wI_RJ9 ⟨Nat.le_of_ble_eq_true rfl, Nat.le_of_ble_eq_true rfl⟩ ⟨Nat.zero_le _, Nat.zero_le _⟩ dX3_spread_67 ?_
  refine lv_istore_n (lv' := [(1, .int (jmax (jmax (jmax 0 (distC (z 8) (z 8))) (distC (z 8) (z 15))) (distC (z 8) (z 22)))), (9, .ref (t 4)), (8, .int 2), (7, .int 4), (6, .ref (t 1)), (5, .ref (t 2)), (4, .int 0), (3, .int 4), (2, .ref (t 1)), (0, .ref (t 0))]) hx hb dX3_spread_70 rfl hl (by decide) rfl (fun ls hl => ?_)
  refine lv_iinc (v := 3) (lv' := [(8, .int 3), (1, .int (jmax (jmax (jmax 0 (distC (z 8) (z 8))) (distC (z 8) (z 15))) (distC (z 8) (z 22)))), (9, .ref (t 4)), (7, .int 4), (6, .ref (t 1)), (5, .ref (t 2)), (4, .int 0), (3, .int 4), (2, .ref (t 1)), (0, .ref (t 0))]) hx hb dX3_spread_71 hl (k := 2) rfl rfl (by decide) rfl (fun ls hl => ?_)
  refine lv_goto (tgt := 39) hx hb dX3_spread_74 (by decide) ?_
  refine lv_iload hx hb dX3_spread_39 (lv_at hl 0 rfl) ?_
  refine lv_iload hx hb dX3_spread_41 (lv_at hl 3 rfl) ?_
  refine lv_icmp_ge (tgt := 77) hx hb dX3_spread_43 (by decide) (fun q9 => absurd q9 (show ¬ (4 : Int32) ≤ (3 : Int32) from (by decide))) (fun c_5 => ?_)
  refine lv_aload hx hb dX3_spread_46 (lv_at hl 4 rfl) ?_
  refine lv_iload hx hb dX3_spread_48 (lv_at hl 0 rfl) ?_
  refine x_aald (v := .ref (t 5)) X 1 2 3 hP rfl rfl rfl (by decide) (Nat.le_of_ble_eq_true rfl) rfl dX3_spread_50 ?_
  refine lv_astore (lv' := [(9, .ref (t 5)), (8, .int 3), (1, .int (jmax (jmax (jmax 0 (distC (z 8) (z 8))) (distC (z 8) (z 15))) (distC (z 8) (z 22)))), (7, .int 4), (6, .ref (t 1)), (5, .ref (t 2)), (4, .int 0), (3, .int 4), (2, .ref (t 1)), (0, .ref (t 0))]) hx hb dX3_spread_51 hl (by decide) rfl (fun ls hl => ?_)
  refine lv_iload_n hx hb dX3_spread_53 rfl (lv_at hl 2 rfl) ?_
  refine lv_aload hx hb dX3_spread_54 (lv_at hl 5 rfl) ?_
  refine x_get (v := .int (z 8)) X 2 0 in_X0 hP rfl rfl (by decide) wF_X3_102 rfl rfl dX3_spread_56 ?_
  refine lv_aload hx hb dX3_spread_59 (lv_at hl 0 rfl) ?_
  refine x_get (v := .int (z 29)) X 5 0 in_X0 hP rfl rfl (by decide) wF_X3_102 rfl rfl dX3_spread_61 ?_
  refine x_goI (wn := TW g t z sf wf sg) (x_rN (As := [.int (z 8), .int (z 29)]) X (c_X5_distance l g (z 8) (z 29) _) yf_X5_distance ys_X5_distance hN.2.2.1 ⟨Nat.le_of_ble_eq_true rfl, Nat.le_of_ble_eq_true rfl⟩ hP hD (p_none _) hl rfl rfl (Nat.le_of_ble_eq_true rfl) dX3_spread_64 ⟨Nat.zero_le _, Nat.zero_le _⟩) hP hD hS hA (p_none _) (p_noneB _) (fun H locs hP hD hS => ?_)
  refine x_max X hl wM_X3_117 mk_max wI_RJ9 ⟨Nat.le_of_ble_eq_true rfl, Nat.le_of_ble_eq_true rfl⟩ ⟨Nat.zero_le _, Nat.zero_le _⟩ dX3_spread_67 ?_
  refine lv_istore_n (lv' := [(1, .int (jmax (jmax (jmax (jmax 0 (distC (z 8) (z 8))) (distC (z 8) (z 15))) (distC (z 8) (z 22))) (distC (z 8) (z 29)))), (9, .ref (t 5)), (8, .int 3), (7, .int 4), (6, .ref (t 1)), (5, .ref (t 2)), (4, .int 0), (3, .int 4), (2, .ref (t 1)), (0, .ref (t 0))]) hx hb dX3_spread_70 rfl hl (by decide) rfl (fun ls hl => ?_)
  refine lv_iinc (v := 4) (lv' := [(8, .int 4), (1, .int (jmax (jmax (jmax (jmax 0 (distC (z 8) (z 8))) (distC (z 8) (z 15))) (distC (z 8) (z 22))) (distC (z 8) (z 29)))), (9, .ref (t 5)), (7, .int 4), (6, .ref (t 1)), (5, .ref (t 2)), (4, .int 0), (3, .int 4), (2, .ref (t 1)), (0, .ref (t 0))]) hx hb dX3_spread_71 hl (k := 2) rfl rfl (by decide) rfl (fun ls hl => ?_)
  refine lv_goto (tgt := 39) hx hb dX3_spread_74 (by decide) ?_
  refine lv_iload hx hb dX3_spread_39 (lv_at hl 0 rfl) ?_
  refine lv_iload hx hb dX3_spread_41 (lv_at hl 3 rfl) ?_
  refine lv_icmp_ge (tgt := 77) hx hb dX3_spread_43 (by decide) (fun c_6 => ?_) (fun q9 => absurd (show (4 : Int32) ≤ (4 : Int32) from (by decide)) (show ¬ ((4 : Int32) ≤ (4 : Int32)) from q9))
  refine lv_iinc (v := 1) (lv' := [(4, .int 1), (8, .int 4), (1, .int (jmax (jmax (jmax (jmax 0 (distC (z 8) (z 8))) (distC (z 8) (z 15))) (distC (z 8) (z 22))) (distC (z 8) (z 29)))), (9, .ref (t 5)), (7, .int 4), (6, .ref (t 1)), (5, .ref (t 2)), (3, .int 4), (2, .ref (t 1)), (0, .ref (t 0))]) hx hb dX3_spread_77 hl (k := 6) rfl rfl (by decide) rfl (fun ls hl => ?_)
  refine lv_goto (tgt := 13) hx hb dX3_spread_80 (by decide) ?_
  refine lv_iload hx hb dX3_spread_13 (lv_at hl 0 rfl) ?_
  refine lv_iload_n hx hb dX3_spread_15 rfl (lv_at hl 7 rfl) ?_
  refine lv_icmp_ge (tgt := 83) hx hb dX3_spread_16 (by decide) (fun q9 => absurd q9 (show ¬ (4 : Int32) ≤ (1 : Int32) from (by decide))) (fun c_7 => ?_)
  refine lv_aload_n hx hb dX3_spread_19 rfl (lv_at hl 8 rfl) ?_
  refine lv_iload hx hb dX3_spread_20 (lv_at hl 0 rfl) ?_
  refine x_aald (v := .ref (t 3)) X 1 2 1 hP rfl rfl rfl (by decide) (Nat.le_of_ble_eq_true rfl) rfl dX3_spread_22 ?_
  refine lv_astore (lv' := [(5, .ref (t 3)), (4, .int 1), (8, .int 4), (1, .int (jmax (jmax (jmax (jmax 0 (distC (z 8) (z 8))) (distC (z 8) (z 15))) (distC (z 8) (z 22))) (distC (z 8) (z 29)))), (9, .ref (t 5)), (7, .int 4), (6, .ref (t 1)), (3, .int 4), (2, .ref (t 1)), (0, .ref (t 0))]) hx hb dX3_spread_23 hl (by decide) rfl (fun ls hl => ?_)
  refine lv_aload_n hx hb dX3_spread_25 rfl (lv_at hl 9 rfl) ?_
  refine x_get (v := .ref (t 1)) X 0 0 in_X3 hP rfl rfl (by decide) wF_X3_11 rfl rfl dX3_spread_26 ?_
  refine lv_astore (lv' := [(6, .ref (t 1)), (5, .ref (t 3)), (4, .int 1), (8, .int 4), (1, .int (jmax (jmax (jmax (jmax 0 (distC (z 8) (z 8))) (distC (z 8) (z 15))) (distC (z 8) (z 22))) (distC (z 8) (z 29)))), (9, .ref (t 5)), (7, .int 4), (3, .int 4), (2, .ref (t 1)), (0, .ref (t 0))]) hx hb dX3_spread_29 hl (by decide) rfl (fun ls hl => ?_)
  refine lv_aload hx hb dX3_spread_31 (lv_at hl 0 rfl) ?_
  refine x_alen (v := 4) X 1 2 hP rfl rfl rfl dX3_spread_33 ?_
  refine lv_istore (lv' := [(7, .int 4), (6, .ref (t 1)), (5, .ref (t 3)), (4, .int 1), (8, .int 4), (1, .int (jmax (jmax (jmax (jmax 0 (distC (z 8) (z 8))) (distC (z 8) (z 15))) (distC (z 8) (z 22))) (distC (z 8) (z 29)))), (9, .ref (t 5)), (3, .int 4), (2, .ref (t 1)), (0, .ref (t 0))]) hx hb dX3_spread_34 hl (by decide) rfl (fun ls hl => ?_)
  refine lv_iconst (v := 0) hx hb dX3_spread_36 (by decide) ?_
  refine lv_istore (lv' := [(8, .int 0), (7, .int 4), (6, .ref (t 1)), (5, .ref (t 3)), (4, .int 1), (1, .int (jmax (jmax (jmax (jmax 0 (distC (z 8) (z 8))) (distC (z 8) (z 15))) (distC (z 8) (z 22))) (distC (z 8) (z 29)))), (9, .ref (t 5)), (3, .int 4), (2, .ref (t 1)), (0, .ref (t 0))]) hx hb dX3_spread_37 hl (by decide) rfl (fun ls hl => ?_)
  refine lv_iload hx hb dX3_spread_39 (lv_at hl 0 rfl) ?_
  refine lv_iload hx hb dX3_spread_41 (lv_at hl 1 rfl) ?_
  refine lv_icmp_ge (tgt := 77) hx hb dX3_spread_43 (by decide) (fun q9 => absurd q9 (show ¬ (4 : Int32) ≤ (0 : Int32) from (by decide))) (fun c_8 => ?_)
  refine lv_aload hx hb dX3_spread_46 (lv_at hl 2 rfl) ?_
  refine lv_iload hx hb dX3_spread_48 (lv_at hl 0 rfl) ?_
  refine x_aald (v := .ref (t 2)) X 1 2 0 hP rfl rfl rfl (by decide) (Nat.le_of_ble_eq_true rfl) rfl dX3_spread_50 ?_
  refine lv_astore (lv' := [(9, .ref (t 2)), (8, .int 0), (7, .int 4), (6, .ref (t 1)), (5, .ref (t 3)), (4, .int 1), (1, .int (jmax (jmax (jmax (jmax 0 (distC (z 8) (z 8))) (distC (z 8) (z 15))) (distC (z 8) (z 22))) (distC (z 8) (z 29)))), (3, .int 4), (2, .ref (t 1)), (0, .ref (t 0))]) hx hb dX3_spread_51 hl (by decide) rfl (fun ls hl => ?_)
  refine lv_iload_n hx hb dX3_spread_53 rfl (lv_at hl 6 rfl) ?_
  refine lv_aload hx hb dX3_spread_54 (lv_at hl 4 rfl) ?_
  refine x_get (v := .int (z 15)) X 3 0 in_X0 hP rfl rfl (by decide) wF_X3_102 rfl rfl dX3_spread_56 ?_
  refine lv_aload hx hb dX3_spread_59 (lv_at hl 0 rfl) ?_
  refine x_get (v := .int (z 8)) X 2 0 in_X0 hP rfl rfl (by decide) wF_X3_102 rfl rfl dX3_spread_61 ?_
  refine x_goI (wn := TW g t z sf wf sg) (x_rN (As := [.int (z 15), .int (z 8)]) X (c_X5_distance l g (z 15) (z 8) _) yf_X5_distance ys_X5_distance hN.2.2.1 ⟨Nat.le_of_ble_eq_true rfl, Nat.le_of_ble_eq_true rfl⟩ hP hD (p_none _) hl rfl rfl (Nat.le_of_ble_eq_true rfl) dX3_spread_64 ⟨Nat.zero_le _, Nat.zero_le _⟩) hP hD hS hA (p_none _) (p_noneB _) (fun H locs hP hD hS => ?_)
  refine x_max X hl wM_X3_117 mk_max wI_RJ9 ⟨Nat.le_of_ble_eq_true rfl, Nat.le_of_ble_eq_true rfl⟩ ⟨Nat.zero_le _, Nat.zero_le _⟩ dX3_spread_67 ?_
  refine lv_istore_n (lv' := [(1, .int (jmax (jmax (jmax (jmax (jmax 0 (distC (z 8) (z 8))) (distC (z 8) (z 15))) (distC (z 8) (z 22))) (distC (z 8) (z 29))) (distC (z 15) (z 8)))), (9, .ref (t 2)), (8, .int 0), (7, .int 4), (6, .ref (t 1)), (5, .ref (t 3)), (4, .int 1), (3, .int 4), (2, .ref (t 1)), (0, .ref (t 0))]) hx hb dX3_spread_70 rfl hl (by decide) rfl (fun ls hl => ?_)
  refine lv_iinc (v := 1) (lv' := [(8, .int 1), (1, .int (jmax (jmax (jmax (jmax (jmax 0 (distC (z 8) (z 8))) (distC (z 8) (z 15))) (distC (z 8) (z 22))) (distC (z 8) (z 29))) (distC (z 15) (z 8)))), (9, .ref (t 2)), (7, .int 4), (6, .ref (t 1)), (5, .ref (t 3)), (4, .int 1), (3, .int 4), (2, .ref (t 1)), (0, .ref (t 0))]) hx hb dX3_spread_71 hl (k := 2) rfl rfl (by decide) rfl (fun ls hl => ?_)
  refine lv_goto (tgt := 39) hx hb dX3_spread_74 (by decide) ?_
  refine lv_iload hx hb dX3_spread_39 (lv_at hl 0 rfl) ?_
  refine lv_iload hx hb dX3_spread_41 (lv_at hl 3 rfl) ?_
  refine lv_icmp_ge (tgt := 77) hx hb dX3_spread_43 (by decide) (fun q9 => absurd q9 (show ¬ (4 : Int32) ≤ (1 : Int32) from (by decide))) (fun c_9 => ?_)
  refine lv_aload hx hb dX3_spread_46 (lv_at hl 4 rfl) ?_
  refine lv_iload hx hb dX3_spread_48 (lv_at hl 0 rfl) ?_
  refine x_aald (v := .ref (t 3)) X 1 2 1 hP rfl rfl rfl (by decide) (Nat.le_of_ble_eq_true rfl) rfl dX3_spread_50 ?_
  refine lv_astore (lv' := [(9, .ref (t 3)), (8, .int 1), (1, .int (jmax (jmax (jmax (jmax (jmax 0 (distC (z 8) (z 8))) (distC (z 8) (z 15))) (distC (z 8) (z 22))) (distC (z 8) (z 29))) (distC (z 15) (z 8)))), (7, .int 4), (6, .ref (t 1)), (5, .ref (t 3)), (4, .int 1), (3, .int 4), (2, .ref (t 1)), (0, .ref (t 0))]) hx hb dX3_spread_51 hl (by decide) rfl (fun ls hl => ?_)
  refine lv_iload_n hx hb dX3_spread_53 rfl (lv_at hl 2 rfl) ?_
  refine lv_aload hx hb dX3_spread_54 (lv_at hl 5 rfl) ?_
  refine x_get (v := .int (z 15)) X 3 0 in_X0 hP rfl rfl (by decide) wF_X3_102 rfl rfl dX3_spread_56 ?_
  refine lv_aload hx hb dX3_spread_59 (lv_at hl 0 rfl) ?_
  refine x_get (v := .int (z 15)) X 3 0 in_X0 hP rfl rfl (by decide) wF_X3_102 rfl rfl dX3_spread_61 ?_
  refine x_goI (wn := TW g t z sf wf sg) (x_rN (As := [.int (z 15), .int (z 15)]) X (c_X5_distance l g (z 15) (z 15) _) yf_X5_distance ys_X5_distance hN.2.2.1 ⟨Nat.le_of_ble_eq_true rfl, Nat.le_of_ble_eq_true rfl⟩ hP hD (p_none _) hl rfl rfl (Nat.le_of_ble_eq_true rfl) dX3_spread_64 ⟨Nat.zero_le _, Nat.zero_le _⟩) hP hD hS hA (p_none _) (p_noneB _) (fun H locs hP hD hS => ?_)
  refine x_max X hl wM_X3_117 mk_max wI_RJ9 ⟨Nat.le_of_ble_eq_true rfl, Nat.le_of_ble_eq_true rfl⟩ ⟨Nat.zero_le _, Nat.zero_le _⟩ dX3_spread_67 ?_
  refine lv_istore_n (lv' := [(1, .int (jmax (jmax (jmax (jmax (jmax (jmax 0 (distC (z 8) (z 8))) (distC (z 8) (z 15))) (distC (z 8) (z 22))) (distC (z 8) (z 29))) (distC (z 15) (z 8))) (distC (z 15) (z 15)))), (9, .ref (t 3)), (8, .int 1), (7, .int 4), (6, .ref (t 1)), (5, .ref (t 3)), (4, .int 1), (3, .int 4), (2, .ref (t 1)), (0, .ref (t 0))]) hx hb dX3_spread_70 rfl hl (by decide) rfl (fun ls hl => ?_)
  refine lv_iinc (v := 2) (lv' := [(8, .int 2), (1, .int (jmax (jmax (jmax (jmax (jmax (jmax 0 (distC (z 8) (z 8))) (distC (z 8) (z 15))) (distC (z 8) (z 22))) (distC (z 8) (z 29))) (distC (z 15) (z 8))) (distC (z 15) (z 15)))), (9, .ref (t 3)), (7, .int 4), (6, .ref (t 1)), (5, .ref (t 3)), (4, .int 1), (3, .int 4), (2, .ref (t 1)), (0, .ref (t 0))]) hx hb dX3_spread_71 hl (k := 2) rfl rfl (by decide) rfl (fun ls hl => ?_)
  refine lv_goto (tgt := 39) hx hb dX3_spread_74 (by decide) ?_
  refine lv_iload hx hb dX3_spread_39 (lv_at hl 0 rfl) ?_
  refine lv_iload hx hb dX3_spread_41 (lv_at hl 3 rfl) ?_
  refine lv_icmp_ge (tgt := 77) hx hb dX3_spread_43 (by decide) (fun q9 => absurd q9 (show ¬ (4 : Int32) ≤ (2 : Int32) from (by decide))) (fun c_10 => ?_)
  refine lv_aload hx hb dX3_spread_46 (lv_at hl 4 rfl) ?_
  refine lv_iload hx hb dX3_spread_48 (lv_at hl 0 rfl) ?_
  refine x_aald (v := .ref (t 4)) X 1 2 2 hP rfl rfl rfl (by decide) (Nat.le_of_ble_eq_true rfl) rfl dX3_spread_50 ?_
  refine lv_astore (lv' := [(9, .ref (t 4)), (8, .int 2), (1, .int (jmax (jmax (jmax (jmax (jmax (jmax 0 (distC (z 8) (z 8))) (distC (z 8) (z 15))) (distC (z 8) (z 22))) (distC (z 8) (z 29))) (distC (z 15) (z 8))) (distC (z 15) (z 15)))), (7, .int 4), (6, .ref (t 1)), (5, .ref (t 3)), (4, .int 1), (3, .int 4), (2, .ref (t 1)), (0, .ref (t 0))]) hx hb dX3_spread_51 hl (by decide) rfl (fun ls hl => ?_)
  refine lv_iload_n hx hb dX3_spread_53 rfl (lv_at hl 2 rfl) ?_
  refine lv_aload hx hb dX3_spread_54 (lv_at hl 5 rfl) ?_
  refine x_get (v := .int (z 15)) X 3 0 in_X0 hP rfl rfl (by decide) wF_X3_102 rfl rfl dX3_spread_56 ?_
  refine lv_aload hx hb dX3_spread_59 (lv_at hl 0 rfl) ?_
  refine x_get (v := .int (z 22)) X 4 0 in_X0 hP rfl rfl (by decide) wF_X3_102 rfl rfl dX3_spread_61 ?_
  refine x_goI (wn := TW g t z sf wf sg) (x_rN (As := [.int (z 15), .int (z 22)]) X (c_X5_distance l g (z 15) (z 22) _) yf_X5_distance ys_X5_distance hN.2.2.1 ⟨Nat.le_of_ble_eq_true rfl, Nat.le_of_ble_eq_true rfl⟩ hP hD (p_none _) hl rfl rfl (Nat.le_of_ble_eq_true rfl) dX3_spread_64 ⟨Nat.zero_le _, Nat.zero_le _⟩) hP hD hS hA (p_none _) (p_noneB _) (fun H locs hP hD hS => ?_)
  refine x_max X hl wM_X3_117 mk_max wI_RJ9 ⟨Nat.le_of_ble_eq_true rfl, Nat.le_of_ble_eq_true rfl⟩ ⟨Nat.zero_le _, Nat.zero_le _⟩ dX3_spread_67 ?_
  refine lv_istore_n (lv' := [(1, .int (jmax (jmax (jmax (jmax (jmax (jmax (jmax 0 (distC (z 8) (z 8))) (distC (z 8) (z 15))) (distC (z 8) (z 22))) (distC (z 8) (z 29))) (distC (z 15) (z 8))) (distC (z 15) (z 15))) (distC (z 15) (z 22)))), (9, .ref (t 4)), (8, .int 2), (7, .int 4), (6, .ref (t 1)), (5, .ref (t 3)), (4, .int 1), (3, .int 4), (2, .ref (t 1)), (0, .ref (t 0))]) hx hb dX3_spread_70 rfl hl (by decide) rfl (fun ls hl => ?_)
  refine lv_iinc (v := 3) (lv' := [(8, .int 3), (1, .int (jmax (jmax (jmax (jmax (jmax (jmax (jmax 0 (distC (z 8) (z 8))) (distC (z 8) (z 15))) (distC (z 8) (z 22))) (distC (z 8) (z 29))) (distC (z 15) (z 8))) (distC (z 15) (z 15))) (distC (z 15) (z 22)))), (9, .ref (t 4)), (7, .int 4), (6, .ref (t 1)), (5, .ref (t 3)), (4, .int 1), (3, .int 4), (2, .ref (t 1)), (0, .ref (t 0))]) hx hb dX3_spread_71 hl (k := 2) rfl rfl (by decide) rfl (fun ls hl => ?_)
  refine lv_goto (tgt := 39) hx hb dX3_spread_74 (by decide) ?_
  refine lv_iload hx hb dX3_spread_39 (lv_at hl 0 rfl) ?_
  refine lv_iload hx hb dX3_spread_41 (lv_at hl 3 rfl) ?_
  refine lv_icmp_ge (tgt := 77) hx hb dX3_spread_43 (by decide) (fun q9 => absurd q9 (show ¬ (4 : Int32) ≤ (3 : Int32) from (by decide))) (fun c_11 => ?_)
  refine lv_aload hx hb dX3_spread_46 (lv_at hl 4 rfl) ?_
  refine lv_iload hx hb dX3_spread_48 (lv_at hl 0 rfl) ?_
  refine x_aald (v := .ref (t 5)) X 1 2 3 hP rfl rfl rfl (by decide) (Nat.le_of_ble_eq_true rfl) rfl dX3_spread_50 ?_
  refine lv_astore (lv' := [(9, .ref (t 5)), (8, .int 3), (1, .int (jmax (jmax (jmax (jmax (jmax (jmax (jmax 0 (distC (z 8) (z 8))) (distC (z 8) (z 15))) (distC (z 8) (z 22))) (distC (z 8) (z 29))) (distC (z 15) (z 8))) (distC (z 15) (z 15))) (distC (z 15) (z 22)))), (7, .int 4), (6, .ref (t 1)), (5, .ref (t 3)), (4, .int 1), (3, .int 4), (2, .ref (t 1)), (0, .ref (t 0))]) hx hb dX3_spread_51 hl (by decide) rfl (fun ls hl => ?_)
  refine lv_iload_n hx hb dX3_spread_53 rfl (lv_at hl 2 rfl) ?_
  refine lv_aload hx hb dX3_spread_54 (lv_at hl 5 rfl) ?_
  refine x_get (v := .int (z 15)) X 3 0 in_X0 hP rfl rfl (by decide) wF_X3_102 rfl rfl dX3_spread_56 ?_
  refine lv_aload hx hb dX3_spread_59 (lv_at hl 0 rfl) ?_
  refine x_get (v := .int (z 29)) X 5 0 in_X0 hP rfl rfl (by decide) wF_X3_102 rfl rfl dX3_spread_61 ?_
  refine x_goI (wn := TW g t z sf wf sg) (x_rN (As := [.int (z 15), .int (z 29)]) X (c_X5_distance l g (z 15) (z 29) _) yf_X5_distance ys_X5_distance hN.2.2.1 ⟨Nat.le_of_ble_eq_true rfl, Nat.le_of_ble_eq_true rfl⟩ hP hD (p_none _) hl rfl rfl (Nat.le_of_ble_eq_true rfl) dX3_spread_64 ⟨Nat.zero_le _, Nat.zero_le _⟩) hP hD hS hA (p_none _) (p_noneB _) (fun H locs hP hD hS => ?_)
  refine x_max X hl wM_X3_117 mk_max wI_RJ9 ⟨Nat.le_of_ble_eq_true rfl, Nat.le_of_ble_eq_true rfl⟩ ⟨Nat.zero_le _, Nat.zero_le _⟩ dX3_spread_67 ?_
  refine lv_istore_n (lv' := [(1, .int (jmax (jmax (jmax (jmax (jmax (jmax (jmax (jmax 0 (distC (z 8) (z 8))) (distC (z 8) (z 15))) (distC (z 8) (z 22))) (distC (z 8) (z 29))) (distC (z 15) (z 8))) (distC (z 15) (z 15))) (distC (z 15) (z 22))) (distC (z 15) (z 29)))), (9, .ref (t 5)), (8, .int 3), (7, .int 4), (6, .ref (t 1)), (5, .ref (t 3)), (4, .int 1), (3, .int 4), (2, .ref (t 1)), (0, .ref (t 0))]) hx hb dX3_spread_70 rfl hl (by decide) rfl (fun ls hl => ?_)
  refine lv_iinc (v := 4) (lv' := [(8, .int 4), (1, .int (jmax (jmax (jmax (jmax (jmax (jmax (jmax (jmax 0 (distC (z 8) (z 8))) (distC (z 8) (z 15))) (distC (z 8) (z 22))) (distC (z 8) (z 29))) (distC (z 15) (z 8))) (distC (z 15) (z 15))) (distC (z 15) (z 22))) (distC (z 15) (z 29)))), (9, .ref (t 5)), (7, .int 4), (6, .ref (t 1)), (5, .ref (t 3)), (4, .int 1), (3, .int 4), (2, .ref (t 1)), (0, .ref (t 0))]) hx hb dX3_spread_71 hl (k := 2) rfl rfl (by decide) rfl (fun ls hl => ?_)
  refine lv_goto (tgt := 39) hx hb dX3_spread_74 (by decide) ?_
  refine lv_iload hx hb dX3_spread_39 (lv_at hl 0 rfl) ?_
  refine lv_iload hx hb dX3_spread_41 (lv_at hl 3 rfl) ?_
  refine lv_icmp_ge (tgt := 77) hx hb dX3_spread_43 (by decide) (fun c_12 => ?_) (fun q9 => absurd (show (4 : Int32) ≤ (4 : Int32) from (by decide)) (show ¬ ((4 : Int32) ≤ (4 : Int32)) from q9))
  refine lv_iinc (v := 2) (lv' := [(4, .int 2), (8, .int 4), (1, .int (jmax (jmax (jmax (jmax (jmax (jmax (jmax (jmax 0 (distC (z 8) (z 8))) (distC (z 8) (z 15))) (distC (z 8) (z 22))) (distC (z 8) (z 29))) (distC (z 15) (z 8))) (distC (z 15) (z 15))) (distC (z 15) (z 22))) (distC (z 15) (z 29)))), (9, .ref (t 5)), (7, .int 4), (6, .ref (t 1)), (5, .ref (t 3)), (3, .int 4), (2, .ref (t 1)), (0, .ref (t 0))]) hx hb dX3_spread_77 hl (k := 6) rfl rfl (by decide) rfl (fun ls hl => ?_)
  refine lv_goto (tgt := 13) hx hb dX3_spread_80 (by decide) ?_
  refine lv_iload hx hb dX3_spread_13 (lv_at hl 0 rfl) ?_
  refine lv_iload_n hx hb dX3_spread_15 rfl (lv_at hl 7 rfl) ?_
  refine lv_icmp_ge (tgt := 83) hx hb dX3_spread_16 (by decide) (fun q9 => absurd q9 (show ¬ (4 : Int32) ≤ (2 : Int32) from (by decide))) (fun c_13 => ?_)
  refine lv_aload_n hx hb dX3_spread_19 rfl (lv_at hl 8 rfl) ?_
  refine lv_iload hx hb dX3_spread_20 (lv_at hl 0 rfl) ?_
  refine x_aald (v := .ref (t 4)) X 1 2 2 hP rfl rfl rfl (by decide) (Nat.le_of_ble_eq_true rfl) rfl dX3_spread_22 ?_
  refine lv_astore (lv' := [(5, .ref (t 4)), (4, .int 2), (8, .int 4), (1, .int (jmax (jmax (jmax (jmax (jmax (jmax (jmax (jmax 0 (distC (z 8) (z 8))) (distC (z 8) (z 15))) (distC (z 8) (z 22))) (distC (z 8) (z 29))) (distC (z 15) (z 8))) (distC (z 15) (z 15))) (distC (z 15) (z 22))) (distC (z 15) (z 29)))), (9, .ref (t 5)), (7, .int 4), (6, .ref (t 1)), (3, .int 4), (2, .ref (t 1)), (0, .ref (t 0))]) hx hb dX3_spread_23 hl (by decide) rfl (fun ls hl => ?_)
  refine lv_aload_n hx hb dX3_spread_25 rfl (lv_at hl 9 rfl) ?_
  refine x_get (v := .ref (t 1)) X 0 0 in_X3 hP rfl rfl (by decide) wF_X3_11 rfl rfl dX3_spread_26 ?_
  refine lv_astore (lv' := [(6, .ref (t 1)), (5, .ref (t 4)), (4, .int 2), (8, .int 4), (1, .int (jmax (jmax (jmax (jmax (jmax (jmax (jmax (jmax 0 (distC (z 8) (z 8))) (distC (z 8) (z 15))) (distC (z 8) (z 22))) (distC (z 8) (z 29))) (distC (z 15) (z 8))) (distC (z 15) (z 15))) (distC (z 15) (z 22))) (distC (z 15) (z 29)))), (9, .ref (t 5)), (7, .int 4), (3, .int 4), (2, .ref (t 1)), (0, .ref (t 0))]) hx hb dX3_spread_29 hl (by decide) rfl (fun ls hl => ?_)
  refine lv_aload hx hb dX3_spread_31 (lv_at hl 0 rfl) ?_
  refine x_alen (v := 4) X 1 2 hP rfl rfl rfl dX3_spread_33 ?_
  refine lv_istore (lv' := [(7, .int 4), (6, .ref (t 1)), (5, .ref (t 4)), (4, .int 2), (8, .int 4), (1, .int (jmax (jmax (jmax (jmax (jmax (jmax (jmax (jmax 0 (distC (z 8) (z 8))) (distC (z 8) (z 15))) (distC (z 8) (z 22))) (distC (z 8) (z 29))) (distC (z 15) (z 8))) (distC (z 15) (z 15))) (distC (z 15) (z 22))) (distC (z 15) (z 29)))), (9, .ref (t 5)), (3, .int 4), (2, .ref (t 1)), (0, .ref (t 0))]) hx hb dX3_spread_34 hl (by decide) rfl (fun ls hl => ?_)
  refine lv_iconst (v := 0) hx hb dX3_spread_36 (by decide) ?_
  refine lv_istore (lv' := [(8, .int 0), (7, .int 4), (6, .ref (t 1)), (5, .ref (t 4)), (4, .int 2), (1, .int (jmax (jmax (jmax (jmax (jmax (jmax (jmax (jmax 0 (distC (z 8) (z 8))) (distC (z 8) (z 15))) (distC (z 8) (z 22))) (distC (z 8) (z 29))) (distC (z 15) (z 8))) (distC (z 15) (z 15))) (distC (z 15) (z 22))) (distC (z 15) (z 29)))), (9, .ref (t 5)), (3, .int 4), (2, .ref (t 1)), (0, .ref (t 0))]) hx hb dX3_spread_37 hl (by decide) rfl (fun ls hl => ?_)
  refine lv_iload hx hb dX3_spread_39 (lv_at hl 0 rfl) ?_
  refine lv_iload hx hb dX3_spread_41 (lv_at hl 1 rfl) ?_
  refine lv_icmp_ge (tgt := 77) hx hb dX3_spread_43 (by decide) (fun q9 => absurd q9 (show ¬ (4 : Int32) ≤ (0 : Int32) from (by decide))) (fun c_14 => ?_)
  refine lv_aload hx hb dX3_spread_46 (lv_at hl 2 rfl) ?_
  refine lv_iload hx hb dX3_spread_48 (lv_at hl 0 rfl) ?_
  refine x_aald (v := .ref (t 2)) X 1 2 0 hP rfl rfl rfl (by decide) (Nat.le_of_ble_eq_true rfl) rfl dX3_spread_50 ?_
  refine lv_astore (lv' := [(9, .ref (t 2)), (8, .int 0), (7, .int 4), (6, .ref (t 1)), (5, .ref (t 4)), (4, .int 2), (1, .int (jmax (jmax (jmax (jmax (jmax (jmax (jmax (jmax 0 (distC (z 8) (z 8))) (distC (z 8) (z 15))) (distC (z 8) (z 22))) (distC (z 8) (z 29))) (distC (z 15) (z 8))) (distC (z 15) (z 15))) (distC (z 15) (z 22))) (distC (z 15) (z 29)))), (3, .int 4), (2, .ref (t 1)), (0, .ref (t 0))]) hx hb dX3_spread_51 hl (by decide) rfl (fun ls hl => ?_)
  refine lv_iload_n hx hb dX3_spread_53 rfl (lv_at hl 6 rfl) ?_
  refine lv_aload hx hb dX3_spread_54 (lv_at hl 4 rfl) ?_
  refine x_get (v := .int (z 22)) X 4 0 in_X0 hP rfl rfl (by decide) wF_X3_102 rfl rfl dX3_spread_56 ?_
  refine lv_aload hx hb dX3_spread_59 (lv_at hl 0 rfl) ?_
  refine x_get (v := .int (z 8)) X 2 0 in_X0 hP rfl rfl (by decide) wF_X3_102 rfl rfl dX3_spread_61 ?_
  refine x_goI (wn := TW g t z sf wf sg) (x_rN (As := [.int (z 22), .int (z 8)]) X (c_X5_distance l g (z 22) (z 8) _) yf_X5_distance ys_X5_distance hN.2.2.1 ⟨Nat.le_of_ble_eq_true rfl, Nat.le_of_ble_eq_true rfl⟩ hP hD (p_none _) hl rfl rfl (Nat.le_of_ble_eq_true rfl) dX3_spread_64 ⟨Nat.zero_le _, Nat.zero_le _⟩) hP hD hS hA (p_none _) (p_noneB _) (fun H locs hP hD hS => ?_)
  refine x_max X hl wM_X3_117 mk_max wI_RJ9 ⟨Nat.le_of_ble_eq_true rfl, Nat.le_of_ble_eq_true rfl⟩ ⟨Nat.zero_le _, Nat.zero_le _⟩ dX3_spread_67 ?_
  refine lv_istore_n (lv' := [(1, .int (jmax (jmax (jmax (jmax (jmax (jmax (jmax (jmax (jmax 0 (distC (z 8) (z 8))) (distC (z 8) (z 15))) (distC (z 8) (z 22))) (distC (z 8) (z 29))) (distC (z 15) (z 8))) (distC (z 15) (z 15))) (distC (z 15) (z 22))) (distC (z 15) (z 29))) (distC (z 22) (z 8)))), (9, .ref (t 2)), (8, .int 0), (7, .int 4), (6, .ref (t 1)), (5, .ref (t 4)), (4, .int 2), (3, .int 4), (2, .ref (t 1)), (0, .ref (t 0))]) hx hb dX3_spread_70 rfl hl (by decide) rfl (fun ls hl => ?_)
  refine lv_iinc (v := 1) (lv' := [(8, .int 1), (1, .int (jmax (jmax (jmax (jmax (jmax (jmax (jmax (jmax (jmax 0 (distC (z 8) (z 8))) (distC (z 8) (z 15))) (distC (z 8) (z 22))) (distC (z 8) (z 29))) (distC (z 15) (z 8))) (distC (z 15) (z 15))) (distC (z 15) (z 22))) (distC (z 15) (z 29))) (distC (z 22) (z 8)))), (9, .ref (t 2)), (7, .int 4), (6, .ref (t 1)), (5, .ref (t 4)), (4, .int 2), (3, .int 4), (2, .ref (t 1)), (0, .ref (t 0))]) hx hb dX3_spread_71 hl (k := 2) rfl rfl (by decide) rfl (fun ls hl => ?_)
  refine lv_goto (tgt := 39) hx hb dX3_spread_74 (by decide) ?_
  refine lv_iload hx hb dX3_spread_39 (lv_at hl 0 rfl) ?_
  refine lv_iload hx hb dX3_spread_41 (lv_at hl 3 rfl) ?_
  refine lv_icmp_ge (tgt := 77) hx hb dX3_spread_43 (by decide) (fun q9 => absurd q9 (show ¬ (4 : Int32) ≤ (1 : Int32) from (by decide))) (fun c_15 => ?_)
  refine lv_aload hx hb dX3_spread_46 (lv_at hl 4 rfl) ?_
  refine lv_iload hx hb dX3_spread_48 (lv_at hl 0 rfl) ?_
  refine x_aald (v := .ref (t 3)) X 1 2 1 hP rfl rfl rfl (by decide) (Nat.le_of_ble_eq_true rfl) rfl dX3_spread_50 ?_
  refine lv_astore (lv' := [(9, .ref (t 3)), (8, .int 1), (1, .int (jmax (jmax (jmax (jmax (jmax (jmax (jmax (jmax (jmax 0 (distC (z 8) (z 8))) (distC (z 8) (z 15))) (distC (z 8) (z 22))) (distC (z 8) (z 29))) (distC (z 15) (z 8))) (distC (z 15) (z 15))) (distC (z 15) (z 22))) (distC (z 15) (z 29))) (distC (z 22) (z 8)))), (7, .int 4), (6, .ref (t 1)), (5, .ref (t 4)), (4, .int 2), (3, .int 4), (2, .ref (t 1)), (0, .ref (t 0))]) hx hb dX3_spread_51 hl (by decide) rfl (fun ls hl => ?_)
  refine lv_iload_n hx hb dX3_spread_53 rfl (lv_at hl 2 rfl) ?_
  refine lv_aload hx hb dX3_spread_54 (lv_at hl 5 rfl) ?_
  refine x_get (v := .int (z 22)) X 4 0 in_X0 hP rfl rfl (by decide) wF_X3_102 rfl rfl dX3_spread_56 ?_
  refine lv_aload hx hb dX3_spread_59 (lv_at hl 0 rfl) ?_
  refine x_get (v := .int (z 15)) X 3 0 in_X0 hP rfl rfl (by decide) wF_X3_102 rfl rfl dX3_spread_61 ?_
  refine x_goI (wn := TW g t z sf wf sg) (x_rN (As := [.int (z 22), .int (z 15)]) X (c_X5_distance l g (z 22) (z 15) _) yf_X5_distance ys_X5_distance hN.2.2.1 ⟨Nat.le_of_ble_eq_true rfl, Nat.le_of_ble_eq_true rfl⟩ hP hD (p_none _) hl rfl rfl (Nat.le_of_ble_eq_true rfl) dX3_spread_64 ⟨Nat.zero_le _, Nat.zero_le _⟩) hP hD hS hA (p_none _) (p_noneB _) (fun H locs hP hD hS => ?_)
  refine x_max X hl wM_X3_117 mk_max wI_RJ9 ⟨Nat.le_of_ble_eq_true rfl, Nat.le_of_ble_eq_true rfl⟩ ⟨Nat.zero_le _, Nat.zero_le _⟩ dX3_spread_67 ?_
  refine lv_istore_n (lv' := [(1, .int (jmax (jmax (jmax (jmax (jmax (jmax (jmax (jmax (jmax (jmax 0 (distC (z 8) (z 8))) (distC (z 8) (z 15))) (distC (z 8) (z 22))) (distC (z 8) (z 29))) (distC (z 15) (z 8))) (distC (z 15) (z 15))) (distC (z 15) (z 22))) (distC (z 15) (z 29))) (distC (z 22) (z 8))) (distC (z 22) (z 15)))), (9, .ref (t 3)), (8, .int 1), (7, .int 4), (6, .ref (t 1)), (5, .ref (t 4)), (4, .int 2), (3, .int 4), (2, .ref (t 1)), (0, .ref (t 0))]) hx hb dX3_spread_70 rfl hl (by decide) rfl (fun ls hl => ?_)
  refine lv_iinc (v := 2) (lv' := [(8, .int 2), (1, .int (jmax (jmax (jmax (jmax (jmax (jmax (jmax (jmax (jmax (jmax 0 (distC (z 8) (z 8))) (distC (z 8) (z 15))) (distC (z 8) (z 22))) (distC (z 8) (z 29))) (distC (z 15) (z 8))) (distC (z 15) (z 15))) (distC (z 15) (z 22))) (distC (z 15) (z 29))) (distC (z 22) (z 8))) (distC (z 22) (z 15)))), (9, .ref (t 3)), (7, .int 4), (6, .ref (t 1)), (5, .ref (t 4)), (4, .int 2), (3, .int 4), (2, .ref (t 1)), (0, .ref (t 0))]) hx hb dX3_spread_71 hl (k := 2) rfl rfl (by decide) rfl (fun ls hl => ?_)
  refine lv_goto (tgt := 39) hx hb dX3_spread_74 (by decide) ?_
  refine lv_iload hx hb dX3_spread_39 (lv_at hl 0 rfl) ?_
  refine lv_iload hx hb dX3_spread_41 (lv_at hl 3 rfl) ?_
  refine lv_icmp_ge (tgt := 77) hx hb dX3_spread_43 (by decide) (fun q9 => absurd q9 (show ¬ (4 : Int32) ≤ (2 : Int32) from (by decide))) (fun c_16 => ?_)
  refine lv_aload hx hb dX3_spread_46 (lv_at hl 4 rfl) ?_
  refine lv_iload hx hb dX3_spread_48 (lv_at hl 0 rfl) ?_
  refine x_aald (v := .ref (t 4)) X 1 2 2 hP rfl rfl rfl (by decide) (Nat.le_of_ble_eq_true rfl) rfl dX3_spread_50 ?_
  refine lv_astore (lv' := [(9, .ref (t 4)), (8, .int 2), (1, .int (jmax (jmax (jmax (jmax (jmax (jmax (jmax (jmax (jmax (jmax 0 (distC (z 8) (z 8))) (distC (z 8) (z 15))) (distC (z 8) (z 22))) (distC (z 8) (z 29))) (distC (z 15) (z 8))) (distC (z 15) (z 15))) (distC (z 15) (z 22))) (distC (z 15) (z 29))) (distC (z 22) (z 8))) (distC (z 22) (z 15)))), (7, .int 4), (6, .ref (t 1)), (5, .ref (t 4)), (4, .int 2), (3, .int 4), (2, .ref (t 1)), (0, .ref (t 0))]) hx hb dX3_spread_51 hl (by decide) rfl (fun ls hl => ?_)
  refine lv_iload_n hx hb dX3_spread_53 rfl (lv_at hl 2 rfl) ?_
  refine lv_aload hx hb dX3_spread_54 (lv_at hl 5 rfl) ?_
  refine x_get (v := .int (z 22)) X 4 0 in_X0 hP rfl rfl (by decide) wF_X3_102 rfl rfl dX3_spread_56 ?_
  refine lv_aload hx hb dX3_spread_59 (lv_at hl 0 rfl) ?_
  refine x_get (v := .int (z 22)) X 4 0 in_X0 hP rfl rfl (by decide) wF_X3_102 rfl rfl dX3_spread_61 ?_
  refine x_goI (wn := TW g t z sf wf sg) (x_rN (As := [.int (z 22), .int (z 22)]) X (c_X5_distance l g (z 22) (z 22) _) yf_X5_distance ys_X5_distance hN.2.2.1 ⟨Nat.le_of_ble_eq_true rfl, Nat.le_of_ble_eq_true rfl⟩ hP hD (p_none _) hl rfl rfl (Nat.le_of_ble_eq_true rfl) dX3_spread_64 ⟨Nat.zero_le _, Nat.zero_le _⟩) hP hD hS hA (p_none _) (p_noneB _) (fun H locs hP hD hS => ?_)
  refine x_max X hl wM_X3_117 mk_max wI_RJ9 ⟨Nat.le_of_ble_eq_true rfl, Nat.le_of_ble_eq_true rfl⟩ ⟨Nat.zero_le _, Nat.zero_le _⟩ dX3_spread_67 ?_
  refine lv_istore_n (lv' := [(1, .int (jmax (jmax (jmax (jmax (jmax (jmax (jmax (jmax (jmax (jmax (jmax 0 (distC (z 8) (z 8))) (distC (z 8) (z 15))) (distC (z 8) (z 22))) (distC (z 8) (z 29))) (distC (z 15) (z 8))) (distC (z 15) (z 15))) (distC (z 15) (z 22))) (distC (z 15) (z 29))) (distC (z 22) (z 8))) (distC (z 22) (z 15))) (distC (z 22) (z 22)))), (9, .ref (t 4)), (8, .int 2), (7, .int 4), (6, .ref (t 1)), (5, .ref (t 4)), (4, .int 2), (3, .int 4), (2, .ref (t 1)), (0, .ref (t 0))]) hx hb dX3_spread_70 rfl hl (by decide) rfl (fun ls hl => ?_)
  refine lv_iinc (v := 3) (lv' := [(8, .int 3), (1, .int (jmax (jmax (jmax (jmax (jmax (jmax (jmax (jmax (jmax (jmax (jmax 0 (distC (z 8) (z 8))) (distC (z 8) (z 15))) (distC (z 8) (z 22))) (distC (z 8) (z 29))) (distC (z 15) (z 8))) (distC (z 15) (z 15))) (distC (z 15) (z 22))) (distC (z 15) (z 29))) (distC (z 22) (z 8))) (distC (z 22) (z 15))) (distC (z 22) (z 22)))), (9, .ref (t 4)), (7, .int 4), (6, .ref (t 1)), (5, .ref (t 4)), (4, .int 2), (3, .int 4), (2, .ref (t 1)), (0, .ref (t 0))]) hx hb dX3_spread_71 hl (k := 2) rfl rfl (by decide) rfl (fun ls hl => ?_)
  refine lv_goto (tgt := 39) hx hb dX3_spread_74 (by decide) ?_
  refine lv_iload hx hb dX3_spread_39 (lv_at hl 0 rfl) ?_
  refine lv_iload hx hb dX3_spread_41 (lv_at hl 3 rfl) ?_
  refine lv_icmp_ge (tgt := 77) hx hb dX3_spread_43 (by decide) (fun q9 => absurd q9 (show ¬ (4 : Int32) ≤ (3 : Int32) from (by decide))) (fun c_17 => ?_)
  refine lv_aload hx hb dX3_spread_46 (lv_at hl 4 rfl) ?_
  refine lv_iload hx hb dX3_spread_48 (lv_at hl 0 rfl) ?_
  refine x_aald (v := .ref (t 5)) X 1 2 3 hP rfl rfl rfl (by decide) (Nat.le_of_ble_eq_true rfl) rfl dX3_spread_50 ?_
  refine lv_astore (lv' := [(9, .ref (t 5)), (8, .int 3), (1, .int (jmax (jmax (jmax (jmax (jmax (jmax (jmax (jmax (jmax (jmax (jmax 0 (distC (z 8) (z 8))) (distC (z 8) (z 15))) (distC (z 8) (z 22))) (distC (z 8) (z 29))) (distC (z 15) (z 8))) (distC (z 15) (z 15))) (distC (z 15) (z 22))) (distC (z 15) (z 29))) (distC (z 22) (z 8))) (distC (z 22) (z 15))) (distC (z 22) (z 22)))), (7, .int 4), (6, .ref (t 1)), (5, .ref (t 4)), (4, .int 2), (3, .int 4), (2, .ref (t 1)), (0, .ref (t 0))]) hx hb dX3_spread_51 hl (by decide) rfl (fun ls hl => ?_)
  refine lv_iload_n hx hb dX3_spread_53 rfl (lv_at hl 2 rfl) ?_
  refine lv_aload hx hb dX3_spread_54 (lv_at hl 5 rfl) ?_
  refine x_get (v := .int (z 22)) X 4 0 in_X0 hP rfl rfl (by decide) wF_X3_102 rfl rfl dX3_spread_56 ?_
  refine lv_aload hx hb dX3_spread_59 (lv_at hl 0 rfl) ?_
  refine x_get (v := .int (z 29)) X 5 0 in_X0 hP rfl rfl (by decide) wF_X3_102 rfl rfl dX3_spread_61 ?_
  refine x_goI (wn := TW g t z sf wf sg) (x_rN (As := [.int (z 22), .int (z 29)]) X (c_X5_distance l g (z 22) (z 29) _) yf_X5_distance ys_X5_distance hN.2.2.1 ⟨Nat.le_of_ble_eq_true rfl, Nat.le_of_ble_eq_true rfl⟩ hP hD (p_none _) hl rfl rfl (Nat.le_of_ble_eq_true rfl) dX3_spread_64 ⟨Nat.zero_le _, Nat.zero_le _⟩) hP hD hS hA (p_none _) (p_noneB _) (fun H locs hP hD hS => ?_)
  refine x_max X hl wM_X3_117 mk_max wI_RJ9 ⟨Nat.le_of_ble_eq_true rfl, Nat.le_of_ble_eq_true rfl⟩ ⟨Nat.zero_le _, Nat.zero_le _⟩ dX3_spread_67 ?_
  refine lv_istore_n (lv' := [(1, .int (jmax (jmax (jmax (jmax (jmax (jmax (jmax (jmax (jmax (jmax (jmax (jmax 0 (distC (z 8) (z 8))) (distC (z 8) (z 15))) (distC (z 8) (z 22))) (distC (z 8) (z 29))) (distC (z 15) (z 8))) (distC (z 15) (z 15))) (distC (z 15) (z 22))) (distC (z 15) (z 29))) (distC (z 22) (z 8))) (distC (z 22) (z 15))) (distC (z 22) (z 22))) (distC (z 22) (z 29)))), (9, .ref (t 5)), (8, .int 3), (7, .int 4), (6, .ref (t 1)), (5, .ref (t 4)), (4, .int 2), (3, .int 4), (2, .ref (t 1)), (0, .ref (t 0))]) hx hb dX3_spread_70 rfl hl (by decide) rfl (fun ls hl => ?_)
  refine lv_iinc (v := 4) (lv' := [(8, .int 4), (1, .int (jmax (jmax (jmax (jmax (jmax (jmax (jmax (jmax (jmax (jmax (jmax (jmax 0 (distC (z 8) (z 8))) (distC (z 8) (z 15))) (distC (z 8) (z 22))) (distC (z 8) (z 29))) (distC (z 15) (z 8))) (distC (z 15) (z 15))) (distC (z 15) (z 22))) (distC (z 15) (z 29))) (distC (z 22) (z 8))) (distC (z 22) (z 15))) (distC (z 22) (z 22))) (distC (z 22) (z 29)))), (9, .ref (t 5)), (7, .int 4), (6, .ref (t 1)), (5, .ref (t 4)), (4, .int 2), (3, .int 4), (2, .ref (t 1)), (0, .ref (t 0))]) hx hb dX3_spread_71 hl (k := 2) rfl rfl (by decide) rfl (fun ls hl => ?_)
  refine lv_goto (tgt := 39) hx hb dX3_spread_74 (by decide) ?_
  refine lv_iload hx hb dX3_spread_39 (lv_at hl 0 rfl) ?_
  refine lv_iload hx hb dX3_spread_41 (lv_at hl 3 rfl) ?_
  refine lv_icmp_ge (tgt := 77) hx hb dX3_spread_43 (by decide) (fun c_18 => ?_) (fun q9 => absurd (show (4 : Int32) ≤ (4 : Int32) from (by decide)) (show ¬ ((4 : Int32) ≤ (4 : Int32)) from q9))
  refine lv_iinc (v := 3) (lv' := [(4, .int 3), (8, .int 4), (1, .int (jmax (jmax (jmax (jmax (jmax (jmax (jmax (jmax (jmax (jmax (jmax (jmax 0 (distC (z 8) (z 8))) (distC (z 8) (z 15))) (distC (z 8) (z 22))) (distC (z 8) (z 29))) (distC (z 15) (z 8))) (distC (z 15) (z 15))) (distC (z 15) (z 22))) (distC (z 15) (z 29))) (distC (z 22) (z 8))) (distC (z 22) (z 15))) (distC (z 22) (z 22))) (distC (z 22) (z 29)))), (9, .ref (t 5)), (7, .int 4), (6, .ref (t 1)), (5, .ref (t 4)), (3, .int 4), (2, .ref (t 1)), (0, .ref (t 0))]) hx hb dX3_spread_77 hl (k := 6) rfl rfl (by decide) rfl (fun ls hl => ?_)
  refine lv_goto (tgt := 13) hx hb dX3_spread_80 (by decide) ?_
  refine lv_iload hx hb dX3_spread_13 (lv_at hl 0 rfl) ?_
  refine lv_iload_n hx hb dX3_spread_15 rfl (lv_at hl 7 rfl) ?_
  refine lv_icmp_ge (tgt := 83) hx hb dX3_spread_16 (by decide) (fun q9 => absurd q9 (show ¬ (4 : Int32) ≤ (3 : Int32) from (by decide))) (fun c_19 => ?_)
  refine lv_aload_n hx hb dX3_spread_19 rfl (lv_at hl 8 rfl) ?_
  refine lv_iload hx hb dX3_spread_20 (lv_at hl 0 rfl) ?_
  refine x_aald (v := .ref (t 5)) X 1 2 3 hP rfl rfl rfl (by decide) (Nat.le_of_ble_eq_true rfl) rfl dX3_spread_22 ?_
  refine lv_astore (lv' := [(5, .ref (t 5)), (4, .int 3), (8, .int 4), (1, .int (jmax (jmax (jmax (jmax (jmax (jmax (jmax (jmax (jmax (jmax (jmax (jmax 0 (distC (z 8) (z 8))) (distC (z 8) (z 15))) (distC (z 8) (z 22))) (distC (z 8) (z 29))) (distC (z 15) (z 8))) (distC (z 15) (z 15))) (distC (z 15) (z 22))) (distC (z 15) (z 29))) (distC (z 22) (z 8))) (distC (z 22) (z 15))) (distC (z 22) (z 22))) (distC (z 22) (z 29)))), (9, .ref (t 5)), (7, .int 4), (6, .ref (t 1)), (3, .int 4), (2, .ref (t 1)), (0, .ref (t 0))]) hx hb dX3_spread_23 hl (by decide) rfl (fun ls hl => ?_)
  refine lv_aload_n hx hb dX3_spread_25 rfl (lv_at hl 9 rfl) ?_
  refine x_get (v := .ref (t 1)) X 0 0 in_X3 hP rfl rfl (by decide) wF_X3_11 rfl rfl dX3_spread_26 ?_
  refine lv_astore (lv' := [(6, .ref (t 1)), (5, .ref (t 5)), (4, .int 3), (8, .int 4), (1, .int (jmax (jmax (jmax (jmax (jmax (jmax (jmax (jmax (jmax (jmax (jmax (jmax 0 (distC (z 8) (z 8))) (distC (z 8) (z 15))) (distC (z 8) (z 22))) (distC (z 8) (z 29))) (distC (z 15) (z 8))) (distC (z 15) (z 15))) (distC (z 15) (z 22))) (distC (z 15) (z 29))) (distC (z 22) (z 8))) (distC (z 22) (z 15))) (distC (z 22) (z 22))) (distC (z 22) (z 29)))), (9, .ref (t 5)), (7, .int 4), (3, .int 4), (2, .ref (t 1)), (0, .ref (t 0))]) hx hb dX3_spread_29 hl (by decide) rfl (fun ls hl => ?_)
  refine lv_aload hx hb dX3_spread_31 (lv_at hl 0 rfl) ?_
  refine x_alen (v := 4) X 1 2 hP rfl rfl rfl dX3_spread_33 ?_
  refine lv_istore (lv' := [(7, .int 4), (6, .ref (t 1)), (5, .ref (t 5)), (4, .int 3), (8, .int 4), (1, .int (jmax (jmax (jmax (jmax (jmax (jmax (jmax (jmax (jmax (jmax (jmax (jmax 0 (distC (z 8) (z 8))) (distC (z 8) (z 15))) (distC (z 8) (z 22))) (distC (z 8) (z 29))) (distC (z 15) (z 8))) (distC (z 15) (z 15))) (distC (z 15) (z 22))) (distC (z 15) (z 29))) (distC (z 22) (z 8))) (distC (z 22) (z 15))) (distC (z 22) (z 22))) (distC (z 22) (z 29)))), (9, .ref (t 5)), (3, .int 4), (2, .ref (t 1)), (0, .ref (t 0))]) hx hb dX3_spread_34 hl (by decide) rfl (fun ls hl => ?_)
  refine lv_iconst (v := 0) hx hb dX3_spread_36 (by decide) ?_
  refine lv_istore (lv' := [(8, .int 0), (7, .int 4), (6, .ref (t 1)), (5, .ref (t 5)), (4, .int 3), (1, .int (jmax (jmax (jmax (jmax (jmax (jmax (jmax (jmax (jmax (jmax (jmax (jmax 0 (distC (z 8) (z 8))) (distC (z 8) (z 15))) (distC (z 8) (z 22))) (distC (z 8) (z 29))) (distC (z 15) (z 8))) (distC (z 15) (z 15))) (distC (z 15) (z 22))) (distC (z 15) (z 29))) (distC (z 22) (z 8))) (distC (z 22) (z 15))) (distC (z 22) (z 22))) (distC (z 22) (z 29)))), (9, .ref (t 5)), (3, .int 4), (2, .ref (t 1)), (0, .ref (t 0))]) hx hb dX3_spread_37 hl (by decide) rfl (fun ls hl => ?_)
  refine lv_iload hx hb dX3_spread_39 (lv_at hl 0 rfl) ?_
  refine lv_iload hx hb dX3_spread_41 (lv_at hl 1 rfl) ?_
  refine lv_icmp_ge (tgt := 77) hx hb dX3_spread_43 (by decide) (fun q9 => absurd q9 (show ¬ (4 : Int32) ≤ (0 : Int32) from (by decide))) (fun c_20 => ?_)
  refine lv_aload hx hb dX3_spread_46 (lv_at hl 2 rfl) ?_
  refine lv_iload hx hb dX3_spread_48 (lv_at hl 0 rfl) ?_
  refine x_aald (v := .ref (t 2)) X 1 2 0 hP rfl rfl rfl (by decide) (Nat.le_of_ble_eq_true rfl) rfl dX3_spread_50 ?_
  refine lv_astore (lv' := [(9, .ref (t 2)), (8, .int 0), (7, .int 4), (6, .ref (t 1)), (5, .ref (t 5)), (4, .int 3), (1, .int (jmax (jmax (jmax (jmax (jmax (jmax (jmax (jmax (jmax (jmax (jmax (jmax 0 (distC (z 8) (z 8))) (distC (z 8) (z 15))) (distC (z 8) (z 22))) (distC (z 8) (z 29))) (distC (z 15) (z 8))) (distC (z 15) (z 15))) (distC (z 15) (z 22))) (distC (z 15) (z 29))) (distC (z 22) (z 8))) (distC (z 22) (z 15))) (distC (z 22) (z 22))) (distC (z 22) (z 29)))), (3, .int 4), (2, .ref (t 1)), (0, .ref (t 0))]) hx hb dX3_spread_51 hl (by decide) rfl (fun ls hl => ?_)
  refine lv_iload_n hx hb dX3_spread_53 rfl (lv_at hl 6 rfl) ?_
  refine lv_aload hx hb dX3_spread_54 (lv_at hl 4 rfl) ?_
  refine x_get (v := .int (z 29)) X 5 0 in_X0 hP rfl rfl (by decide) wF_X3_102 rfl rfl dX3_spread_56 ?_
  refine lv_aload hx hb dX3_spread_59 (lv_at hl 0 rfl) ?_
  refine x_get (v := .int (z 8)) X 2 0 in_X0 hP rfl rfl (by decide) wF_X3_102 rfl rfl dX3_spread_61 ?_
  refine x_goI (wn := TW g t z sf wf sg) (x_rN (As := [.int (z 29), .int (z 8)]) X (c_X5_distance l g (z 29) (z 8) _) yf_X5_distance ys_X5_distance hN.2.2.1 ⟨Nat.le_of_ble_eq_true rfl, Nat.le_of_ble_eq_true rfl⟩ hP hD (p_none _) hl rfl rfl (Nat.le_of_ble_eq_true rfl) dX3_spread_64 ⟨Nat.zero_le _, Nat.zero_le _⟩) hP hD hS hA (p_none _) (p_noneB _) (fun H locs hP hD hS => ?_)
  refine x_max X hl wM_X3_117 mk_max wI_RJ9 ⟨Nat.le_of_ble_eq_true rfl, Nat.le_of_ble_eq_true rfl⟩ ⟨Nat.zero_le _, Nat.zero_le _⟩ dX3_spread_67 ?_
  refine lv_istore_n (lv' := [(1, .int (jmax (jmax (jmax (jmax (jmax (jmax (jmax (jmax (jmax (jmax (jmax (jmax (jmax 0 (distC (z 8) (z 8))) (distC (z 8) (z 15))) (distC (z 8) (z 22))) (distC (z 8) (z 29))) (distC (z 15) (z 8))) (distC (z 15) (z 15))) (distC (z 15) (z 22))) (distC (z 15) (z 29))) (distC (z 22) (z 8))) (distC (z 22) (z 15))) (distC (z 22) (z 22))) (distC (z 22) (z 29))) (distC (z 29) (z 8)))), (9, .ref (t 2)), (8, .int 0), (7, .int 4), (6, .ref (t 1)), (5, .ref (t 5)), (4, .int 3), (3, .int 4), (2, .ref (t 1)), (0, .ref (t 0))]) hx hb dX3_spread_70 rfl hl (by decide) rfl (fun ls hl => ?_)
  refine lv_iinc (v := 1) (lv' := [(8, .int 1), (1, .int (jmax (jmax (jmax (jmax (jmax (jmax (jmax (jmax (jmax (jmax (jmax (jmax (jmax 0 (distC (z 8) (z 8))) (distC (z 8) (z 15))) (distC (z 8) (z 22))) (distC (z 8) (z 29))) (distC (z 15) (z 8))) (distC (z 15) (z 15))) (distC (z 15) (z 22))) (distC (z 15) (z 29))) (distC (z 22) (z 8))) (distC (z 22) (z 15))) (distC (z 22) (z 22))) (distC (z 22) (z 29))) (distC (z 29) (z 8)))), (9, .ref (t 2)), (7, .int 4), (6, .ref (t 1)), (5, .ref (t 5)), (4, .int 3), (3, .int 4), (2, .ref (t 1)), (0, .ref (t 0))]) hx hb dX3_spread_71 hl (k := 2) rfl rfl (by decide) rfl (fun ls hl => ?_)
  refine lv_goto (tgt := 39) hx hb dX3_spread_74 (by decide) ?_
  refine lv_iload hx hb dX3_spread_39 (lv_at hl 0 rfl) ?_
  refine lv_iload hx hb dX3_spread_41 (lv_at hl 3 rfl) ?_
  refine lv_icmp_ge (tgt := 77) hx hb dX3_spread_43 (by decide) (fun q9 => absurd q9 (show ¬ (4 : Int32) ≤ (1 : Int32) from (by decide))) (fun c_21 => ?_)
  refine lv_aload hx hb dX3_spread_46 (lv_at hl 4 rfl) ?_
  refine lv_iload hx hb dX3_spread_48 (lv_at hl 0 rfl) ?_
  refine x_aald (v := .ref (t 3)) X 1 2 1 hP rfl rfl rfl (by decide) (Nat.le_of_ble_eq_true rfl) rfl dX3_spread_50 ?_
  refine lv_astore (lv' := [(9, .ref (t 3)), (8, .int 1), (1, .int (jmax (jmax (jmax (jmax (jmax (jmax (jmax (jmax (jmax (jmax (jmax (jmax (jmax 0 (distC (z 8) (z 8))) (distC (z 8) (z 15))) (distC (z 8) (z 22))) (distC (z 8) (z 29))) (distC (z 15) (z 8))) (distC (z 15) (z 15))) (distC (z 15) (z 22))) (distC (z 15) (z 29))) (distC (z 22) (z 8))) (distC (z 22) (z 15))) (distC (z 22) (z 22))) (distC (z 22) (z 29))) (distC (z 29) (z 8)))), (7, .int 4), (6, .ref (t 1)), (5, .ref (t 5)), (4, .int 3), (3, .int 4), (2, .ref (t 1)), (0, .ref (t 0))]) hx hb dX3_spread_51 hl (by decide) rfl (fun ls hl => ?_)
  refine lv_iload_n hx hb dX3_spread_53 rfl (lv_at hl 2 rfl) ?_
  refine lv_aload hx hb dX3_spread_54 (lv_at hl 5 rfl) ?_
  refine x_get (v := .int (z 29)) X 5 0 in_X0 hP rfl rfl (by decide) wF_X3_102 rfl rfl dX3_spread_56 ?_
  refine lv_aload hx hb dX3_spread_59 (lv_at hl 0 rfl) ?_
  refine x_get (v := .int (z 15)) X 3 0 in_X0 hP rfl rfl (by decide) wF_X3_102 rfl rfl dX3_spread_61 ?_
  refine x_goI (wn := TW g t z sf wf sg) (x_rN (As := [.int (z 29), .int (z 15)]) X (c_X5_distance l g (z 29) (z 15) _) yf_X5_distance ys_X5_distance hN.2.2.1 ⟨Nat.le_of_ble_eq_true rfl, Nat.le_of_ble_eq_true rfl⟩ hP hD (p_none _) hl rfl rfl (Nat.le_of_ble_eq_true rfl) dX3_spread_64 ⟨Nat.zero_le _, Nat.zero_le _⟩) hP hD hS hA (p_none _) (p_noneB _) (fun H locs hP hD hS => ?_)
  refine x_max X hl wM_X3_117 mk_max wI_RJ9 ⟨Nat.le_of_ble_eq_true rfl, Nat.le_of_ble_eq_true rfl⟩ ⟨Nat.zero_le _, Nat.zero_le _⟩ dX3_spread_67 ?_
  refine lv_istore_n (lv' := [(1, .int (jmax (jmax (jmax (jmax (jmax (jmax (jmax (jmax (jmax (jmax (jmax (jmax (jmax (jmax 0 (distC (z 8) (z 8))) (distC (z 8) (z 15))) (distC (z 8) (z 22))) (distC (z 8) (z 29))) (distC (z 15) (z 8))) (distC (z 15) (z 15))) (distC (z 15) (z 22))) (distC (z 15) (z 29))) (distC (z 22) (z 8))) (distC (z 22) (z 15))) (distC (z 22) (z 22))) (distC (z 22) (z 29))) (distC (z 29) (z 8))) (distC (z 29) (z 15)))), (9, .ref (t 3)), (8, .int 1), (7, .int 4), (6, .ref (t 1)), (5, .ref (t 5)), (4, .int 3), (3, .int 4), (2, .ref (t 1)), (0, .ref (t 0))]) hx hb dX3_spread_70 rfl hl (by decide) rfl (fun ls hl => ?_)
  refine lv_iinc (v := 2) (lv' := [(8, .int 2), (1, .int (jmax (jmax (jmax (jmax (jmax (jmax (jmax (jmax (jmax (jmax (jmax (jmax (jmax (jmax 0 (distC (z 8) (z 8))) (distC (z 8) (z 15))) (distC (z 8) (z 22))) (distC (z 8) (z 29))) (distC (z 15) (z 8))) (distC (z 15) (z 15))) (distC (z 15) (z 22))) (distC (z 15) (z 29))) (distC (z 22) (z 8))) (distC (z 22) (z 15))) (distC (z 22) (z 22))) (distC (z 22) (z 29))) (distC (z 29) (z 8))) (distC (z 29) (z 15)))), (9, .ref (t 3)), (7, .int 4), (6, .ref (t 1)), (5, .ref (t 5)), (4, .int 3), (3, .int 4), (2, .ref (t 1)), (0, .ref (t 0))]) hx hb dX3_spread_71 hl (k := 2) rfl rfl (by decide) rfl (fun ls hl => ?_)
  refine lv_goto (tgt := 39) hx hb dX3_spread_74 (by decide) ?_
  refine lv_iload hx hb dX3_spread_39 (lv_at hl 0 rfl) ?_
  refine lv_iload hx hb dX3_spread_41 (lv_at hl 3 rfl) ?_
  refine lv_icmp_ge (tgt := 77) hx hb dX3_spread_43 (by decide) (fun q9 => absurd q9 (show ¬ (4 : Int32) ≤ (2 : Int32) from (by decide))) (fun c_22 => ?_)
  refine lv_aload hx hb dX3_spread_46 (lv_at hl 4 rfl) ?_
  refine lv_iload hx hb dX3_spread_48 (lv_at hl 0 rfl) ?_
  refine x_aald (v := .ref (t 4)) X 1 2 2 hP rfl rfl rfl (by decide) (Nat.le_of_ble_eq_true rfl) rfl dX3_spread_50 ?_
  refine lv_astore (lv' := [(9, .ref (t 4)), (8, .int 2), (1, .int (jmax (jmax (jmax (jmax (jmax (jmax (jmax (jmax (jmax (jmax (jmax (jmax (jmax (jmax 0 (distC (z 8) (z 8))) (distC (z 8) (z 15))) (distC (z 8) (z 22))) (distC (z 8) (z 29))) (distC (z 15) (z 8))) (distC (z 15) (z 15))) (distC (z 15) (z 22))) (distC (z 15) (z 29))) (distC (z 22) (z 8))) (distC (z 22) (z 15))) (distC (z 22) (z 22))) (distC (z 22) (z 29))) (distC (z 29) (z 8))) (distC (z 29) (z 15)))), (7, .int 4), (6, .ref (t 1)), (5, .ref (t 5)), (4, .int 3), (3, .int 4), (2, .ref (t 1)), (0, .ref (t 0))]) hx hb dX3_spread_51 hl (by decide) rfl (fun ls hl => ?_)
  refine lv_iload_n hx hb dX3_spread_53 rfl (lv_at hl 2 rfl) ?_
  refine lv_aload hx hb dX3_spread_54 (lv_at hl 5 rfl) ?_
  refine x_get (v := .int (z 29)) X 5 0 in_X0 hP rfl rfl (by decide) wF_X3_102 rfl rfl dX3_spread_56 ?_
  refine lv_aload hx hb dX3_spread_59 (lv_at hl 0 rfl) ?_
  refine x_get (v := .int (z 22)) X 4 0 in_X0 hP rfl rfl (by decide) wF_X3_102 rfl rfl dX3_spread_61 ?_
  refine x_goI (wn := TW g t z sf wf sg) (x_rN (As := [.int (z 29), .int (z 22)]) X (c_X5_distance l g (z 29) (z 22) _) yf_X5_distance ys_X5_distance hN.2.2.1 ⟨Nat.le_of_ble_eq_true rfl, Nat.le_of_ble_eq_true rfl⟩ hP hD (p_none _) hl rfl rfl (Nat.le_of_ble_eq_true rfl) dX3_spread_64 ⟨Nat.zero_le _, Nat.zero_le _⟩) hP hD hS hA (p_none _) (p_noneB _) (fun H locs hP hD hS => ?_)
  refine x_max X hl wM_X3_117 mk_max wI_RJ9 ⟨Nat.le_of_ble_eq_true rfl, Nat.le_of_ble_eq_true rfl⟩ ⟨Nat.zero_le _, Nat.zero_le _⟩ dX3_spread_67 ?_
  refine lv_istore_n (lv' := [(1, .int (jmax (jmax (jmax (jmax (jmax (jmax (jmax (jmax (jmax (jmax (jmax (jmax (jmax (jmax (jmax 0 (distC (z 8) (z 8))) (distC (z 8) (z 15))) (distC (z 8) (z 22))) (distC (z 8) (z 29))) (distC (z 15) (z 8))) (distC (z 15) (z 15))) (distC (z 15) (z 22))) (distC (z 15) (z 29))) (distC (z 22) (z 8))) (distC (z 22) (z 15))) (distC (z 22) (z 22))) (distC (z 22) (z 29))) (distC (z 29) (z 8))) (distC (z 29) (z 15))) (distC (z 29) (z 22)))), (9, .ref (t 4)), (8, .int 2), (7, .int 4), (6, .ref (t 1)), (5, .ref (t 5)), (4, .int 3), (3, .int 4), (2, .ref (t 1)), (0, .ref (t 0))]) hx hb dX3_spread_70 rfl hl (by decide) rfl (fun ls hl => ?_)
  refine lv_iinc (v := 3) (lv' := [(8, .int 3), (1, .int (jmax (jmax (jmax (jmax (jmax (jmax (jmax (jmax (jmax (jmax (jmax (jmax (jmax (jmax (jmax 0 (distC (z 8) (z 8))) (distC (z 8) (z 15))) (distC (z 8) (z 22))) (distC (z 8) (z 29))) (distC (z 15) (z 8))) (distC (z 15) (z 15))) (distC (z 15) (z 22))) (distC (z 15) (z 29))) (distC (z 22) (z 8))) (distC (z 22) (z 15))) (distC (z 22) (z 22))) (distC (z 22) (z 29))) (distC (z 29) (z 8))) (distC (z 29) (z 15))) (distC (z 29) (z 22)))), (9, .ref (t 4)), (7, .int 4), (6, .ref (t 1)), (5, .ref (t 5)), (4, .int 3), (3, .int 4), (2, .ref (t 1)), (0, .ref (t 0))]) hx hb dX3_spread_71 hl (k := 2) rfl rfl (by decide) rfl (fun ls hl => ?_)
  refine lv_goto (tgt := 39) hx hb dX3_spread_74 (by decide) ?_
  refine lv_iload hx hb dX3_spread_39 (lv_at hl 0 rfl) ?_
  refine lv_iload hx hb dX3_spread_41 (lv_at hl 3 rfl) ?_
  refine lv_icmp_ge (tgt := 77) hx hb dX3_spread_43 (by decide) (fun q9 => absurd q9 (show ¬ (4 : Int32) ≤ (3 : Int32) from (by decide))) (fun c_23 => ?_)
  refine lv_aload hx hb dX3_spread_46 (lv_at hl 4 rfl) ?_
  refine lv_iload hx hb dX3_spread_48 (lv_at hl 0 rfl) ?_
  refine x_aald (v := .ref (t 5)) X 1 2 3 hP rfl rfl rfl (by decide) (Nat.le_of_ble_eq_true rfl) rfl dX3_spread_50 ?_
  refine lv_astore (lv' := [(9, .ref (t 5)), (8, .int 3), (1, .int (jmax (jmax (jmax (jmax (jmax (jmax (jmax (jmax (jmax (jmax (jmax (jmax (jmax (jmax (jmax 0 (distC (z 8) (z 8))) (distC (z 8) (z 15))) (distC (z 8) (z 22))) (distC (z 8) (z 29))) (distC (z 15) (z 8))) (distC (z 15) (z 15))) (distC (z 15) (z 22))) (distC (z 15) (z 29))) (distC (z 22) (z 8))) (distC (z 22) (z 15))) (distC (z 22) (z 22))) (distC (z 22) (z 29))) (distC (z 29) (z 8))) (distC (z 29) (z 15))) (distC (z 29) (z 22)))), (7, .int 4), (6, .ref (t 1)), (5, .ref (t 5)), (4, .int 3), (3, .int 4), (2, .ref (t 1)), (0, .ref (t 0))]) hx hb dX3_spread_51 hl (by decide) rfl (fun ls hl => ?_)
  refine lv_iload_n hx hb dX3_spread_53 rfl (lv_at hl 2 rfl) ?_
  refine lv_aload hx hb dX3_spread_54 (lv_at hl 5 rfl) ?_
  refine x_get (v := .int (z 29)) X 5 0 in_X0 hP rfl rfl (by decide) wF_X3_102 rfl rfl dX3_spread_56 ?_
  refine lv_aload hx hb dX3_spread_59 (lv_at hl 0 rfl) ?_
  refine x_get (v := .int (z 29)) X 5 0 in_X0 hP rfl rfl (by decide) wF_X3_102 rfl rfl dX3_spread_61 ?_
  refine x_goI (wn := TW g t z sf wf sg) (x_rN (As := [.int (z 29), .int (z 29)]) X (c_X5_distance l g (z 29) (z 29) _) yf_X5_distance ys_X5_distance hN.2.2.1 ⟨Nat.le_of_ble_eq_true rfl, Nat.le_of_ble_eq_true rfl⟩ hP hD (p_none _) hl rfl rfl (Nat.le_of_ble_eq_true rfl) dX3_spread_64 ⟨Nat.zero_le _, Nat.zero_le _⟩) hP hD hS hA (p_none _) (p_noneB _) (fun H locs hP hD hS => ?_)
  refine x_max X hl wM_X3_117 mk_max wI_RJ9 ⟨Nat.le_of_ble_eq_true rfl, Nat.le_of_ble_eq_true rfl⟩ ⟨Nat.zero_le _, Nat.zero_le _⟩ dX3_spread_67 ?_
  refine lv_istore_n (lv' := [(1, .int (jmax (jmax (jmax (jmax (jmax (jmax (jmax (jmax (jmax (jmax (jmax (jmax (jmax (jmax (jmax (jmax 0 (distC (z 8) (z 8))) (distC (z 8) (z 15))) (distC (z 8) (z 22))) (distC (z 8) (z 29))) (distC (z 15) (z 8))) (distC (z 15) (z 15))) (distC (z 15) (z 22))) (distC (z 15) (z 29))) (distC (z 22) (z 8))) (distC (z 22) (z 15))) (distC (z 22) (z 22))) (distC (z 22) (z 29))) (distC (z 29) (z 8))) (distC (z 29) (z 15))) (distC (z 29) (z 22))) (distC (z 29) (z 29)))), (9, .ref (t 5)), (8, .int 3), (7, .int 4), (6, .ref (t 1)), (5, .ref (t 5)), (4, .int 3), (3, .int 4), (2, .ref (t 1)), (0, .ref (t 0))]) hx hb dX3_spread_70 rfl hl (by decide) rfl (fun ls hl => ?_)
  refine lv_iinc (v := 4) (lv' := [(8, .int 4), (1, .int (jmax (jmax (jmax (jmax (jmax (jmax (jmax (jmax (jmax (jmax (jmax (jmax (jmax (jmax (jmax (jmax 0 (distC (z 8) (z 8))) (distC (z 8) (z 15))) (distC (z 8) (z 22))) (distC (z 8) (z 29))) (distC (z 15) (z 8))) (distC (z 15) (z 15))) (distC (z 15) (z 22))) (distC (z 15) (z 29))) (distC (z 22) (z 8))) (distC (z 22) (z 15))) (distC (z 22) (z 22))) (distC (z 22) (z 29))) (distC (z 29) (z 8))) (distC (z 29) (z 15))) (distC (z 29) (z 22))) (distC (z 29) (z 29)))), (9, .ref (t 5)), (7, .int 4), (6, .ref (t 1)), (5, .ref (t 5)), (4, .int 3), (3, .int 4), (2, .ref (t 1)), (0, .ref (t 0))]) hx hb dX3_spread_71 hl (k := 2) rfl rfl (by decide) rfl (fun ls hl => ?_)
  refine lv_goto (tgt := 39) hx hb dX3_spread_74 (by decide) ?_
  refine lv_iload hx hb dX3_spread_39 (lv_at hl 0 rfl) ?_
  refine lv_iload hx hb dX3_spread_41 (lv_at hl 3 rfl) ?_
  refine lv_icmp_ge (tgt := 77) hx hb dX3_spread_43 (by decide) (fun c_24 => ?_) (fun q9 => absurd (show (4 : Int32) ≤ (4 : Int32) from (by decide)) (show ¬ ((4 : Int32) ≤ (4 : Int32)) from q9))
  refine lv_iinc (v := 4) (lv' := [(4, .int 4), (8, .int 4), (1, .int (jmax (jmax (jmax (jmax (jmax (jmax (jmax (jmax (jmax (jmax (jmax (jmax (jmax (jmax (jmax (jmax 0 (distC (z 8) (z 8))) (distC (z 8) (z 15))) (distC (z 8) (z 22))) (distC (z 8) (z 29))) (distC (z 15) (z 8))) (distC (z 15) (z 15))) (distC (z 15) (z 22))) (distC (z 15) (z 29))) (distC (z 22) (z 8))) (distC (z 22) (z 15))) (distC (z 22) (z 22))) (distC (z 22) (z 29))) (distC (z 29) (z 8))) (distC (z 29) (z 15))) (distC (z 29) (z 22))) (distC (z 29) (z 29)))), (9, .ref (t 5)), (7, .int 4), (6, .ref (t 1)), (5, .ref (t 5)), (3, .int 4), (2, .ref (t 1)), (0, .ref (t 0))]) hx hb dX3_spread_77 hl (k := 6) rfl rfl (by decide) rfl (fun ls hl => ?_)
  refine lv_goto (tgt := 13) hx hb dX3_spread_80 (by decide) ?_
  refine lv_iload hx hb dX3_spread_13 (lv_at hl 0 rfl) ?_
  refine lv_iload_n hx hb dX3_spread_15 rfl (lv_at hl 7 rfl) ?_
  refine lv_icmp_ge (tgt := 83) hx hb dX3_spread_16 (by decide) (fun c_25 => ?_) (fun q9 => absurd (show (4 : Int32) ≤ (4 : Int32) from (by decide)) (show ¬ ((4 : Int32) ≤ (4 : Int32)) from q9))
  refine lv_iload_n hx hb dX3_spread_83 rfl (lv_at hl 2 rfl) ?_
  exact x_iret X hr hlocks hP hD hS rfl dX3_spread_84

def fwL (z : Nat → Int32) (x : Int32) : Nat → Nat → Int32 → Int32
  | 0, _, q => q
  | n + 1, o, q => if z o = x then fwL z x n (o + 7) (q + 1) else fwL z x n (o + 7) q
def beL (z : Nat → Int32) : Nat → Nat → Int32 → Int32
  | 0, _, q => q
  | n + 1, o, q => if z (o + 5) = 0 then beL z n (o + 7) q else beL z n (o + 7) (q + 1)
set_option maxHeartbeats 4000000 in
set_option maxRecDepth 100000 in
theorem c_X3_facesWithDial (l : Launch) (g : wG) (t : Nat → Nat) (z sf wf sg : Nat → Int32) (x : Int32) : CtI l g 0 yX3_facesWithDial cX3_facesWithDial 7 (some .int) [.ref (t 0), .int x] (TW g t z sf wf sg) (fwL z x 4 8 0) (TW g t z sf wf sg) := by
  intro sz
  refine x_enter (Qc := fun A => QI g A (fwL z x 4 8 0) (TW g t z sf wf sg)) (by decide) (Nat.le_of_ble_eq_true rfl) ?_
  intro p e s m args below meth c X hr hlocks A hA hP hD hS ls hl
  obtain ⟨⟨hx, hb, hml, hown, hts⟩, hK, hN⟩ := id X
  have hl : lv_has ls 7 [(0, .ref (t 0)), (1, .int x)] := hl
  refine lv_iconst (v := 0) hx hb dX3_facesWithDial_0 (by decide) ?_
  refine lv_istore_n (lv' := [(2, .int 0), (0, .ref (t 0)), (1, .int x)]) hx hb dX3_facesWithDial_1 rfl hl (by decide) rfl (fun ls hl => ?_)
  refine lv_aload_n hx hb dX3_facesWithDial_2 rfl (lv_at hl 1 rfl) ?_
  refine x_get (v := .ref (t 1)) X 0 0 in_X3 hP rfl rfl (by decide) wF_X3_11 rfl rfl dX3_facesWithDial_3 ?_
  refine lv_astore_n (lv' := [(3, .ref (t 1)), (2, .int 0), (0, .ref (t 0)), (1, .int x)]) hx hb dX3_facesWithDial_6 rfl hl (by decide) rfl (fun ls hl => ?_)
  refine lv_aload_n hx hb dX3_facesWithDial_7 rfl (lv_at hl 0 rfl) ?_
  refine x_alen (v := 4) X 1 2 hP rfl rfl rfl dX3_facesWithDial_8 ?_
  refine lv_istore (lv' := [(4, .int 4), (3, .ref (t 1)), (2, .int 0), (0, .ref (t 0)), (1, .int x)]) hx hb dX3_facesWithDial_9 hl (by decide) rfl (fun ls hl => ?_)
  refine lv_iconst (v := 0) hx hb dX3_facesWithDial_11 (by decide) ?_
  refine lv_istore (lv' := [(5, .int 0), (4, .int 4), (3, .ref (t 1)), (2, .int 0), (0, .ref (t 0)), (1, .int x)]) hx hb dX3_facesWithDial_12 hl (by decide) rfl (fun ls hl => ?_)
  have L14_4 : ∀ (q : Int32), fwL z x 0 36 q = fwL z x 4 8 0 → ∀ (ls : Array Slot) (H : Heap) (locs : List Loc), va_P g.1 vwCl (TW g t z sf wf sg) H → va_D A (TW g t z sf wf sg) → va_S A s.heap H locs → lv_has ls 7 [(5, .int 4), (4, .int 4), (3, .ref (t 1)), (2, .int q), (0, .ref (t 0)), (1, .int x)] → W p l e (rmD 0) s m args below meth c H locs 0 0 (MQ below (QI g A (fwL z x 4 8 0) (TW g t z sf wf sg)) args s 0 0 A) (F0 m 14 ls []) := by
    intro q ht ls H locs hP hD hS hl
    refine lv_iload hx hb dX3_facesWithDial_14 (lv_at hl 0 rfl) ?_
    refine lv_iload hx hb dX3_facesWithDial_16 (lv_at hl 1 rfl) ?_
    refine lv_icmp_ge (tgt := 45) hx hb dX3_facesWithDial_18 (by decide) (fun c_1 => ?_) (fun q9 => absurd (show (4 : Int32) ≤ (4 : Int32) from (by decide)) (show ¬ ((4 : Int32) ≤ (4 : Int32)) from q9))
    refine lv_iload_n hx hb dX3_facesWithDial_45 rfl (lv_at hl 3 rfl) ?_
    exact x_iret X hr hlocks hP hD hS ht dX3_facesWithDial_46
  have L14_3 : ∀ (q : Int32), fwL z x 1 29 q = fwL z x 4 8 0 → ∀ (ls : Array Slot) (H : Heap) (locs : List Loc), va_P g.1 vwCl (TW g t z sf wf sg) H → va_D A (TW g t z sf wf sg) → va_S A s.heap H locs → lv_has ls 7 [(5, .int 3), (4, .int 4), (3, .ref (t 1)), (2, .int q), (0, .ref (t 0)), (1, .int x)] → W p l e (rmD 0) s m args below meth c H locs 0 0 (MQ below (QI g A (fwL z x 4 8 0) (TW g t z sf wf sg)) args s 0 0 A) (F0 m 14 ls []) := by
    intro q ht ls H locs hP hD hS hl
    refine lv_iload hx hb dX3_facesWithDial_14 (lv_at hl 0 rfl) ?_
    refine lv_iload hx hb dX3_facesWithDial_16 (lv_at hl 1 rfl) ?_
    refine lv_icmp_ge (tgt := 45) hx hb dX3_facesWithDial_18 (by decide) (fun q9 => absurd q9 (show ¬ (4 : Int32) ≤ (3 : Int32) from (by decide))) (fun c_2 => ?_)
    refine lv_aload_n hx hb dX3_facesWithDial_21 rfl (lv_at hl 2 rfl) ?_
    refine lv_iload hx hb dX3_facesWithDial_22 (lv_at hl 0 rfl) ?_
    refine x_aald (v := .ref (t 5)) X 1 2 3 hP rfl rfl rfl (by decide) (Nat.le_of_ble_eq_true rfl) rfl dX3_facesWithDial_24 ?_
    refine lv_astore (lv' := [(6, .ref (t 5)), (5, .int 3), (4, .int 4), (3, .ref (t 1)), (2, .int q), (0, .ref (t 0)), (1, .int x)]) hx hb dX3_facesWithDial_25 hl (by decide) rfl (fun ls hl => ?_)
    refine lv_aload hx hb dX3_facesWithDial_27 (lv_at hl 0 rfl) ?_
    refine x_get (v := .int (z 29)) X 5 0 in_X0 hP rfl rfl (by decide) wF_X3_102 rfl rfl dX3_facesWithDial_29 ?_
    refine lv_iload_n hx hb dX3_facesWithDial_32 rfl (lv_at hl 6 rfl) ?_
    refine lv_icmp_ne (tgt := 39) hx hb dX3_facesWithDial_33 (by decide) (fun (c_3 : ¬ (z 29) = x) => ?_) (fun (c_3 : (z 29) = x) => ?_)
    · refine lv_iinc (v := 4) (lv' := [(5, .int 4), (6, .ref (t 5)), (4, .int 4), (3, .ref (t 1)), (2, .int q), (0, .ref (t 0)), (1, .int x)]) hx hb dX3_facesWithDial_39 hl (k := 1) rfl rfl (by decide) rfl (fun ls hl => ?_)
      refine lv_goto (tgt := 14) hx hb dX3_facesWithDial_42 (by decide) ?_
      exact L14_4 q (by rw [← ht]; simp only [fwL, if_neg c_3]) ls _ _ hP hD hS (lv_sub hl [0, 2, 3, 4, 5, 6] rfl)
    · refine lv_iinc (v := (q + 1)) (lv' := [(2, .int (q + 1)), (6, .ref (t 5)), (5, .int 3), (4, .int 4), (3, .ref (t 1)), (0, .ref (t 0)), (1, .int x)]) hx hb dX3_facesWithDial_36 hl (k := 4) rfl rfl (by decide) rfl (fun ls hl => ?_)
      refine lv_iinc (v := 4) (lv' := [(5, .int 4), (2, .int (q + 1)), (6, .ref (t 5)), (4, .int 4), (3, .ref (t 1)), (0, .ref (t 0)), (1, .int x)]) hx hb dX3_facesWithDial_39 hl (k := 2) rfl rfl (by decide) rfl (fun ls hl => ?_)
      refine lv_goto (tgt := 14) hx hb dX3_facesWithDial_42 (by decide) ?_
      exact L14_4 (q + 1) (by rw [← ht]; simp only [fwL, if_pos c_3]) ls _ _ hP hD hS (lv_sub hl [0, 3, 4, 1, 5, 6] rfl)
  have L14_2 : ∀ (q : Int32), fwL z x 2 22 q = fwL z x 4 8 0 → ∀ (ls : Array Slot) (H : Heap) (locs : List Loc), va_P g.1 vwCl (TW g t z sf wf sg) H → va_D A (TW g t z sf wf sg) → va_S A s.heap H locs → lv_has ls 7 [(5, .int 2), (4, .int 4), (3, .ref (t 1)), (2, .int q), (0, .ref (t 0)), (1, .int x)] → W p l e (rmD 0) s m args below meth c H locs 0 0 (MQ below (QI g A (fwL z x 4 8 0) (TW g t z sf wf sg)) args s 0 0 A) (F0 m 14 ls []) := by
    intro q ht ls H locs hP hD hS hl
    refine lv_iload hx hb dX3_facesWithDial_14 (lv_at hl 0 rfl) ?_
    refine lv_iload hx hb dX3_facesWithDial_16 (lv_at hl 1 rfl) ?_
    refine lv_icmp_ge (tgt := 45) hx hb dX3_facesWithDial_18 (by decide) (fun q9 => absurd q9 (show ¬ (4 : Int32) ≤ (2 : Int32) from (by decide))) (fun c_4 => ?_)
    refine lv_aload_n hx hb dX3_facesWithDial_21 rfl (lv_at hl 2 rfl) ?_
    refine lv_iload hx hb dX3_facesWithDial_22 (lv_at hl 0 rfl) ?_
    refine x_aald (v := .ref (t 4)) X 1 2 2 hP rfl rfl rfl (by decide) (Nat.le_of_ble_eq_true rfl) rfl dX3_facesWithDial_24 ?_
    refine lv_astore (lv' := [(6, .ref (t 4)), (5, .int 2), (4, .int 4), (3, .ref (t 1)), (2, .int q), (0, .ref (t 0)), (1, .int x)]) hx hb dX3_facesWithDial_25 hl (by decide) rfl (fun ls hl => ?_)
    refine lv_aload hx hb dX3_facesWithDial_27 (lv_at hl 0 rfl) ?_
    refine x_get (v := .int (z 22)) X 4 0 in_X0 hP rfl rfl (by decide) wF_X3_102 rfl rfl dX3_facesWithDial_29 ?_
    refine lv_iload_n hx hb dX3_facesWithDial_32 rfl (lv_at hl 6 rfl) ?_
    refine lv_icmp_ne (tgt := 39) hx hb dX3_facesWithDial_33 (by decide) (fun (c_5 : ¬ (z 22) = x) => ?_) (fun (c_5 : (z 22) = x) => ?_)
    · refine lv_iinc (v := 3) (lv' := [(5, .int 3), (6, .ref (t 4)), (4, .int 4), (3, .ref (t 1)), (2, .int q), (0, .ref (t 0)), (1, .int x)]) hx hb dX3_facesWithDial_39 hl (k := 1) rfl rfl (by decide) rfl (fun ls hl => ?_)
      refine lv_goto (tgt := 14) hx hb dX3_facesWithDial_42 (by decide) ?_
      exact L14_3 q (by rw [← ht]; simp only [fwL, if_neg c_5]) ls _ _ hP hD hS (lv_sub hl [0, 2, 3, 4, 5, 6] rfl)
    · refine lv_iinc (v := (q + 1)) (lv' := [(2, .int (q + 1)), (6, .ref (t 4)), (5, .int 2), (4, .int 4), (3, .ref (t 1)), (0, .ref (t 0)), (1, .int x)]) hx hb dX3_facesWithDial_36 hl (k := 4) rfl rfl (by decide) rfl (fun ls hl => ?_)
      refine lv_iinc (v := 3) (lv' := [(5, .int 3), (2, .int (q + 1)), (6, .ref (t 4)), (4, .int 4), (3, .ref (t 1)), (0, .ref (t 0)), (1, .int x)]) hx hb dX3_facesWithDial_39 hl (k := 2) rfl rfl (by decide) rfl (fun ls hl => ?_)
      refine lv_goto (tgt := 14) hx hb dX3_facesWithDial_42 (by decide) ?_
      exact L14_3 (q + 1) (by rw [← ht]; simp only [fwL, if_pos c_5]) ls _ _ hP hD hS (lv_sub hl [0, 3, 4, 1, 5, 6] rfl)
  have L14_1 : ∀ (q : Int32), fwL z x 3 15 q = fwL z x 4 8 0 → ∀ (ls : Array Slot) (H : Heap) (locs : List Loc), va_P g.1 vwCl (TW g t z sf wf sg) H → va_D A (TW g t z sf wf sg) → va_S A s.heap H locs → lv_has ls 7 [(5, .int 1), (4, .int 4), (3, .ref (t 1)), (2, .int q), (0, .ref (t 0)), (1, .int x)] → W p l e (rmD 0) s m args below meth c H locs 0 0 (MQ below (QI g A (fwL z x 4 8 0) (TW g t z sf wf sg)) args s 0 0 A) (F0 m 14 ls []) := by
    intro q ht ls H locs hP hD hS hl
    refine lv_iload hx hb dX3_facesWithDial_14 (lv_at hl 0 rfl) ?_
    refine lv_iload hx hb dX3_facesWithDial_16 (lv_at hl 1 rfl) ?_
    refine lv_icmp_ge (tgt := 45) hx hb dX3_facesWithDial_18 (by decide) (fun q9 => absurd q9 (show ¬ (4 : Int32) ≤ (1 : Int32) from (by decide))) (fun c_6 => ?_)
    refine lv_aload_n hx hb dX3_facesWithDial_21 rfl (lv_at hl 2 rfl) ?_
    refine lv_iload hx hb dX3_facesWithDial_22 (lv_at hl 0 rfl) ?_
    refine x_aald (v := .ref (t 3)) X 1 2 1 hP rfl rfl rfl (by decide) (Nat.le_of_ble_eq_true rfl) rfl dX3_facesWithDial_24 ?_
    refine lv_astore (lv' := [(6, .ref (t 3)), (5, .int 1), (4, .int 4), (3, .ref (t 1)), (2, .int q), (0, .ref (t 0)), (1, .int x)]) hx hb dX3_facesWithDial_25 hl (by decide) rfl (fun ls hl => ?_)
    refine lv_aload hx hb dX3_facesWithDial_27 (lv_at hl 0 rfl) ?_
    refine x_get (v := .int (z 15)) X 3 0 in_X0 hP rfl rfl (by decide) wF_X3_102 rfl rfl dX3_facesWithDial_29 ?_
    refine lv_iload_n hx hb dX3_facesWithDial_32 rfl (lv_at hl 6 rfl) ?_
    refine lv_icmp_ne (tgt := 39) hx hb dX3_facesWithDial_33 (by decide) (fun (c_7 : ¬ (z 15) = x) => ?_) (fun (c_7 : (z 15) = x) => ?_)
    · refine lv_iinc (v := 2) (lv' := [(5, .int 2), (6, .ref (t 3)), (4, .int 4), (3, .ref (t 1)), (2, .int q), (0, .ref (t 0)), (1, .int x)]) hx hb dX3_facesWithDial_39 hl (k := 1) rfl rfl (by decide) rfl (fun ls hl => ?_)
      refine lv_goto (tgt := 14) hx hb dX3_facesWithDial_42 (by decide) ?_
      exact L14_2 q (by rw [← ht]; simp only [fwL, if_neg c_7]) ls _ _ hP hD hS (lv_sub hl [0, 2, 3, 4, 5, 6] rfl)
    · refine lv_iinc (v := (q + 1)) (lv' := [(2, .int (q + 1)), (6, .ref (t 3)), (5, .int 1), (4, .int 4), (3, .ref (t 1)), (0, .ref (t 0)), (1, .int x)]) hx hb dX3_facesWithDial_36 hl (k := 4) rfl rfl (by decide) rfl (fun ls hl => ?_)
      refine lv_iinc (v := 2) (lv' := [(5, .int 2), (2, .int (q + 1)), (6, .ref (t 3)), (4, .int 4), (3, .ref (t 1)), (0, .ref (t 0)), (1, .int x)]) hx hb dX3_facesWithDial_39 hl (k := 2) rfl rfl (by decide) rfl (fun ls hl => ?_)
      refine lv_goto (tgt := 14) hx hb dX3_facesWithDial_42 (by decide) ?_
      exact L14_2 (q + 1) (by rw [← ht]; simp only [fwL, if_pos c_7]) ls _ _ hP hD hS (lv_sub hl [0, 3, 4, 1, 5, 6] rfl)
  have L14_0 : ∀ (q : Int32), fwL z x 4 8 q = fwL z x 4 8 0 → ∀ (ls : Array Slot) (H : Heap) (locs : List Loc), va_P g.1 vwCl (TW g t z sf wf sg) H → va_D A (TW g t z sf wf sg) → va_S A s.heap H locs → lv_has ls 7 [(5, .int 0), (4, .int 4), (3, .ref (t 1)), (2, .int q), (0, .ref (t 0)), (1, .int x)] → W p l e (rmD 0) s m args below meth c H locs 0 0 (MQ below (QI g A (fwL z x 4 8 0) (TW g t z sf wf sg)) args s 0 0 A) (F0 m 14 ls []) := by
    intro q ht ls H locs hP hD hS hl
    refine lv_iload hx hb dX3_facesWithDial_14 (lv_at hl 0 rfl) ?_
    refine lv_iload hx hb dX3_facesWithDial_16 (lv_at hl 1 rfl) ?_
    refine lv_icmp_ge (tgt := 45) hx hb dX3_facesWithDial_18 (by decide) (fun q9 => absurd q9 (show ¬ (4 : Int32) ≤ (0 : Int32) from (by decide))) (fun c_8 => ?_)
    refine lv_aload_n hx hb dX3_facesWithDial_21 rfl (lv_at hl 2 rfl) ?_
    refine lv_iload hx hb dX3_facesWithDial_22 (lv_at hl 0 rfl) ?_
    refine x_aald (v := .ref (t 2)) X 1 2 0 hP rfl rfl rfl (by decide) (Nat.le_of_ble_eq_true rfl) rfl dX3_facesWithDial_24 ?_
    refine lv_astore (lv' := [(6, .ref (t 2)), (5, .int 0), (4, .int 4), (3, .ref (t 1)), (2, .int q), (0, .ref (t 0)), (1, .int x)]) hx hb dX3_facesWithDial_25 hl (by decide) rfl (fun ls hl => ?_)
    refine lv_aload hx hb dX3_facesWithDial_27 (lv_at hl 0 rfl) ?_
    refine x_get (v := .int (z 8)) X 2 0 in_X0 hP rfl rfl (by decide) wF_X3_102 rfl rfl dX3_facesWithDial_29 ?_
    refine lv_iload_n hx hb dX3_facesWithDial_32 rfl (lv_at hl 6 rfl) ?_
    refine lv_icmp_ne (tgt := 39) hx hb dX3_facesWithDial_33 (by decide) (fun (c_9 : ¬ (z 8) = x) => ?_) (fun (c_9 : (z 8) = x) => ?_)
    · refine lv_iinc (v := 1) (lv' := [(5, .int 1), (6, .ref (t 2)), (4, .int 4), (3, .ref (t 1)), (2, .int q), (0, .ref (t 0)), (1, .int x)]) hx hb dX3_facesWithDial_39 hl (k := 1) rfl rfl (by decide) rfl (fun ls hl => ?_)
      refine lv_goto (tgt := 14) hx hb dX3_facesWithDial_42 (by decide) ?_
      exact L14_1 q (by rw [← ht]; simp only [fwL, if_neg c_9]) ls _ _ hP hD hS (lv_sub hl [0, 2, 3, 4, 5, 6] rfl)
    · refine lv_iinc (v := (q + 1)) (lv' := [(2, .int (q + 1)), (6, .ref (t 2)), (5, .int 0), (4, .int 4), (3, .ref (t 1)), (0, .ref (t 0)), (1, .int x)]) hx hb dX3_facesWithDial_36 hl (k := 4) rfl rfl (by decide) rfl (fun ls hl => ?_)
      refine lv_iinc (v := 1) (lv' := [(5, .int 1), (2, .int (q + 1)), (6, .ref (t 2)), (4, .int 4), (3, .ref (t 1)), (0, .ref (t 0)), (1, .int x)]) hx hb dX3_facesWithDial_39 hl (k := 2) rfl rfl (by decide) rfl (fun ls hl => ?_)
      refine lv_goto (tgt := 14) hx hb dX3_facesWithDial_42 (by decide) ?_
      exact L14_1 (q + 1) (by rw [← ht]; simp only [fwL, if_pos c_9]) ls _ _ hP hD hS (lv_sub hl [0, 3, 4, 1, 5, 6] rfl)
  exact L14_0 0 rfl ls _ _ hP hD hS (lv_sub hl [0, 1, 2, 3, 4, 5] rfl)

set_option maxHeartbeats 4000000 in
set_option maxRecDepth 100000 in
theorem c_X3_bells (l : Launch) (g : wG) (t : Nat → Nat) (z sf wf sg : Nat → Int32) : CtI l g 0 yX3_bells cX3_bells 6 (some .int) [.ref (t 0)] (TW g t z sf wf sg) (beL z 4 8 0) (TW g t z sf wf sg) := by
  intro sz
  refine x_enter (Qc := fun A => QI g A (beL z 4 8 0) (TW g t z sf wf sg)) (by decide) (Nat.le_of_ble_eq_true rfl) ?_
  intro p e s m args below meth c X hr hlocks A hA hP hD hS ls hl
  obtain ⟨⟨hx, hb, hml, hown, hts⟩, hK, hN⟩ := id X
  have hl : lv_has ls 6 [(0, .ref (t 0))] := hl
  refine lv_iconst (v := 0) hx hb dX3_bells_0 (by decide) ?_
  refine lv_istore_n (lv' := [(1, .int 0), (0, .ref (t 0))]) hx hb dX3_bells_1 rfl hl (by decide) rfl (fun ls hl => ?_)
  refine lv_aload_n hx hb dX3_bells_2 rfl (lv_at hl 1 rfl) ?_
  refine x_get (v := .ref (t 1)) X 0 0 in_X3 hP rfl rfl (by decide) wF_X3_11 rfl rfl dX3_bells_3 ?_
  refine lv_astore_n (lv' := [(2, .ref (t 1)), (1, .int 0), (0, .ref (t 0))]) hx hb dX3_bells_6 rfl hl (by decide) rfl (fun ls hl => ?_)
  refine lv_aload_n hx hb dX3_bells_7 rfl (lv_at hl 0 rfl) ?_
  refine x_alen (v := 4) X 1 2 hP rfl rfl rfl dX3_bells_8 ?_
  refine lv_istore_n (lv' := [(3, .int 4), (2, .ref (t 1)), (1, .int 0), (0, .ref (t 0))]) hx hb dX3_bells_9 rfl hl (by decide) rfl (fun ls hl => ?_)
  refine lv_iconst (v := 0) hx hb dX3_bells_10 (by decide) ?_
  refine lv_istore (lv' := [(4, .int 0), (3, .int 4), (2, .ref (t 1)), (1, .int 0), (0, .ref (t 0))]) hx hb dX3_bells_11 hl (by decide) rfl (fun ls hl => ?_)
  have L13_4 : ∀ (q : Int32), beL z 0 36 q = beL z 4 8 0 → ∀ (ls : Array Slot) (H : Heap) (locs : List Loc), va_P g.1 vwCl (TW g t z sf wf sg) H → va_D A (TW g t z sf wf sg) → va_S A s.heap H locs → lv_has ls 6 [(4, .int 4), (3, .int 4), (2, .ref (t 1)), (1, .int q), (0, .ref (t 0))] → W p l e (rmD 0) s m args below meth c H locs 0 0 (MQ below (QI g A (beL z 4 8 0) (TW g t z sf wf sg)) args s 0 0 A) (F0 m 13 ls []) := by
    intro q ht ls H locs hP hD hS hl
    refine lv_iload hx hb dX3_bells_13 (lv_at hl 0 rfl) ?_
    refine lv_iload_n hx hb dX3_bells_15 rfl (lv_at hl 1 rfl) ?_
    refine lv_icmp_ge (tgt := 42) hx hb dX3_bells_16 (by decide) (fun c_1 => ?_) (fun q9 => absurd (show (4 : Int32) ≤ (4 : Int32) from (by decide)) (show ¬ ((4 : Int32) ≤ (4 : Int32)) from q9))
    refine lv_iload_n hx hb dX3_bells_42 rfl (lv_at hl 3 rfl) ?_
    exact x_iret X hr hlocks hP hD hS ht dX3_bells_43
  have L13_3 : ∀ (q : Int32), beL z 1 29 q = beL z 4 8 0 → ∀ (ls : Array Slot) (H : Heap) (locs : List Loc), va_P g.1 vwCl (TW g t z sf wf sg) H → va_D A (TW g t z sf wf sg) → va_S A s.heap H locs → lv_has ls 6 [(4, .int 3), (3, .int 4), (2, .ref (t 1)), (1, .int q), (0, .ref (t 0))] → W p l e (rmD 0) s m args below meth c H locs 0 0 (MQ below (QI g A (beL z 4 8 0) (TW g t z sf wf sg)) args s 0 0 A) (F0 m 13 ls []) := by
    intro q ht ls H locs hP hD hS hl
    refine lv_iload hx hb dX3_bells_13 (lv_at hl 0 rfl) ?_
    refine lv_iload_n hx hb dX3_bells_15 rfl (lv_at hl 1 rfl) ?_
    refine lv_icmp_ge (tgt := 42) hx hb dX3_bells_16 (by decide) (fun q9 => absurd q9 (show ¬ (4 : Int32) ≤ (3 : Int32) from (by decide))) (fun c_2 => ?_)
    refine lv_aload_n hx hb dX3_bells_19 rfl (lv_at hl 2 rfl) ?_
    refine lv_iload hx hb dX3_bells_20 (lv_at hl 0 rfl) ?_
    refine x_aald (v := .ref (t 5)) X 1 2 3 hP rfl rfl rfl (by decide) (Nat.le_of_ble_eq_true rfl) rfl dX3_bells_22 ?_
    refine lv_astore (lv' := [(5, .ref (t 5)), (4, .int 3), (3, .int 4), (2, .ref (t 1)), (1, .int q), (0, .ref (t 0))]) hx hb dX3_bells_23 hl (by decide) rfl (fun ls hl => ?_)
    refine lv_aload hx hb dX3_bells_25 (lv_at hl 0 rfl) ?_
    refine x_get (v := .int (z 34)) X 5 5 in_X0 hP rfl rfl (by decide) wF_X3_120 rfl rfl dX3_bells_27 ?_
    refine lv_if_eq (tgt := 36) hx hb dX3_bells_30 (by decide) (fun (c_3 : (z 34) = 0) => ?_) (fun (c_3 : ¬ (z 34) = 0) => ?_)
    · refine lv_iinc (v := 4) (lv' := [(4, .int 4), (5, .ref (t 5)), (3, .int 4), (2, .ref (t 1)), (1, .int q), (0, .ref (t 0))]) hx hb dX3_bells_36 hl (k := 1) rfl rfl (by decide) rfl (fun ls hl => ?_)
      refine lv_goto (tgt := 13) hx hb dX3_bells_39 (by decide) ?_
      exact L13_4 q (by rw [← ht]; simp only [beL, if_pos c_3]) ls _ _ hP hD hS (lv_sub hl [0, 2, 3, 4, 5] rfl)
    · refine lv_iinc (v := (q + 1)) (lv' := [(1, .int (q + 1)), (5, .ref (t 5)), (4, .int 3), (3, .int 4), (2, .ref (t 1)), (0, .ref (t 0))]) hx hb dX3_bells_33 hl (k := 4) rfl rfl (by decide) rfl (fun ls hl => ?_)
      refine lv_iinc (v := 4) (lv' := [(4, .int 4), (1, .int (q + 1)), (5, .ref (t 5)), (3, .int 4), (2, .ref (t 1)), (0, .ref (t 0))]) hx hb dX3_bells_36 hl (k := 2) rfl rfl (by decide) rfl (fun ls hl => ?_)
      refine lv_goto (tgt := 13) hx hb dX3_bells_39 (by decide) ?_
      exact L13_4 (q + 1) (by rw [← ht]; simp only [beL, if_neg c_3]) ls _ _ hP hD hS (lv_sub hl [0, 3, 4, 1, 5] rfl)
  have L13_2 : ∀ (q : Int32), beL z 2 22 q = beL z 4 8 0 → ∀ (ls : Array Slot) (H : Heap) (locs : List Loc), va_P g.1 vwCl (TW g t z sf wf sg) H → va_D A (TW g t z sf wf sg) → va_S A s.heap H locs → lv_has ls 6 [(4, .int 2), (3, .int 4), (2, .ref (t 1)), (1, .int q), (0, .ref (t 0))] → W p l e (rmD 0) s m args below meth c H locs 0 0 (MQ below (QI g A (beL z 4 8 0) (TW g t z sf wf sg)) args s 0 0 A) (F0 m 13 ls []) := by
    intro q ht ls H locs hP hD hS hl
    refine lv_iload hx hb dX3_bells_13 (lv_at hl 0 rfl) ?_
    refine lv_iload_n hx hb dX3_bells_15 rfl (lv_at hl 1 rfl) ?_
    refine lv_icmp_ge (tgt := 42) hx hb dX3_bells_16 (by decide) (fun q9 => absurd q9 (show ¬ (4 : Int32) ≤ (2 : Int32) from (by decide))) (fun c_4 => ?_)
    refine lv_aload_n hx hb dX3_bells_19 rfl (lv_at hl 2 rfl) ?_
    refine lv_iload hx hb dX3_bells_20 (lv_at hl 0 rfl) ?_
    refine x_aald (v := .ref (t 4)) X 1 2 2 hP rfl rfl rfl (by decide) (Nat.le_of_ble_eq_true rfl) rfl dX3_bells_22 ?_
    refine lv_astore (lv' := [(5, .ref (t 4)), (4, .int 2), (3, .int 4), (2, .ref (t 1)), (1, .int q), (0, .ref (t 0))]) hx hb dX3_bells_23 hl (by decide) rfl (fun ls hl => ?_)
    refine lv_aload hx hb dX3_bells_25 (lv_at hl 0 rfl) ?_
    refine x_get (v := .int (z 27)) X 4 5 in_X0 hP rfl rfl (by decide) wF_X3_120 rfl rfl dX3_bells_27 ?_
    refine lv_if_eq (tgt := 36) hx hb dX3_bells_30 (by decide) (fun (c_5 : (z 27) = 0) => ?_) (fun (c_5 : ¬ (z 27) = 0) => ?_)
    · refine lv_iinc (v := 3) (lv' := [(4, .int 3), (5, .ref (t 4)), (3, .int 4), (2, .ref (t 1)), (1, .int q), (0, .ref (t 0))]) hx hb dX3_bells_36 hl (k := 1) rfl rfl (by decide) rfl (fun ls hl => ?_)
      refine lv_goto (tgt := 13) hx hb dX3_bells_39 (by decide) ?_
      exact L13_3 q (by rw [← ht]; simp only [beL, if_pos c_5]) ls _ _ hP hD hS (lv_sub hl [0, 2, 3, 4, 5] rfl)
    · refine lv_iinc (v := (q + 1)) (lv' := [(1, .int (q + 1)), (5, .ref (t 4)), (4, .int 2), (3, .int 4), (2, .ref (t 1)), (0, .ref (t 0))]) hx hb dX3_bells_33 hl (k := 4) rfl rfl (by decide) rfl (fun ls hl => ?_)
      refine lv_iinc (v := 3) (lv' := [(4, .int 3), (1, .int (q + 1)), (5, .ref (t 4)), (3, .int 4), (2, .ref (t 1)), (0, .ref (t 0))]) hx hb dX3_bells_36 hl (k := 2) rfl rfl (by decide) rfl (fun ls hl => ?_)
      refine lv_goto (tgt := 13) hx hb dX3_bells_39 (by decide) ?_
      exact L13_3 (q + 1) (by rw [← ht]; simp only [beL, if_neg c_5]) ls _ _ hP hD hS (lv_sub hl [0, 3, 4, 1, 5] rfl)
  have L13_1 : ∀ (q : Int32), beL z 3 15 q = beL z 4 8 0 → ∀ (ls : Array Slot) (H : Heap) (locs : List Loc), va_P g.1 vwCl (TW g t z sf wf sg) H → va_D A (TW g t z sf wf sg) → va_S A s.heap H locs → lv_has ls 6 [(4, .int 1), (3, .int 4), (2, .ref (t 1)), (1, .int q), (0, .ref (t 0))] → W p l e (rmD 0) s m args below meth c H locs 0 0 (MQ below (QI g A (beL z 4 8 0) (TW g t z sf wf sg)) args s 0 0 A) (F0 m 13 ls []) := by
    intro q ht ls H locs hP hD hS hl
    refine lv_iload hx hb dX3_bells_13 (lv_at hl 0 rfl) ?_
    refine lv_iload_n hx hb dX3_bells_15 rfl (lv_at hl 1 rfl) ?_
    refine lv_icmp_ge (tgt := 42) hx hb dX3_bells_16 (by decide) (fun q9 => absurd q9 (show ¬ (4 : Int32) ≤ (1 : Int32) from (by decide))) (fun c_6 => ?_)
    refine lv_aload_n hx hb dX3_bells_19 rfl (lv_at hl 2 rfl) ?_
    refine lv_iload hx hb dX3_bells_20 (lv_at hl 0 rfl) ?_
    refine x_aald (v := .ref (t 3)) X 1 2 1 hP rfl rfl rfl (by decide) (Nat.le_of_ble_eq_true rfl) rfl dX3_bells_22 ?_
    refine lv_astore (lv' := [(5, .ref (t 3)), (4, .int 1), (3, .int 4), (2, .ref (t 1)), (1, .int q), (0, .ref (t 0))]) hx hb dX3_bells_23 hl (by decide) rfl (fun ls hl => ?_)
    refine lv_aload hx hb dX3_bells_25 (lv_at hl 0 rfl) ?_
    refine x_get (v := .int (z 20)) X 3 5 in_X0 hP rfl rfl (by decide) wF_X3_120 rfl rfl dX3_bells_27 ?_
    refine lv_if_eq (tgt := 36) hx hb dX3_bells_30 (by decide) (fun (c_7 : (z 20) = 0) => ?_) (fun (c_7 : ¬ (z 20) = 0) => ?_)
    · refine lv_iinc (v := 2) (lv' := [(4, .int 2), (5, .ref (t 3)), (3, .int 4), (2, .ref (t 1)), (1, .int q), (0, .ref (t 0))]) hx hb dX3_bells_36 hl (k := 1) rfl rfl (by decide) rfl (fun ls hl => ?_)
      refine lv_goto (tgt := 13) hx hb dX3_bells_39 (by decide) ?_
      exact L13_2 q (by rw [← ht]; simp only [beL, if_pos c_7]) ls _ _ hP hD hS (lv_sub hl [0, 2, 3, 4, 5] rfl)
    · refine lv_iinc (v := (q + 1)) (lv' := [(1, .int (q + 1)), (5, .ref (t 3)), (4, .int 1), (3, .int 4), (2, .ref (t 1)), (0, .ref (t 0))]) hx hb dX3_bells_33 hl (k := 4) rfl rfl (by decide) rfl (fun ls hl => ?_)
      refine lv_iinc (v := 2) (lv' := [(4, .int 2), (1, .int (q + 1)), (5, .ref (t 3)), (3, .int 4), (2, .ref (t 1)), (0, .ref (t 0))]) hx hb dX3_bells_36 hl (k := 2) rfl rfl (by decide) rfl (fun ls hl => ?_)
      refine lv_goto (tgt := 13) hx hb dX3_bells_39 (by decide) ?_
      exact L13_2 (q + 1) (by rw [← ht]; simp only [beL, if_neg c_7]) ls _ _ hP hD hS (lv_sub hl [0, 3, 4, 1, 5] rfl)
  have L13_0 : ∀ (q : Int32), beL z 4 8 q = beL z 4 8 0 → ∀ (ls : Array Slot) (H : Heap) (locs : List Loc), va_P g.1 vwCl (TW g t z sf wf sg) H → va_D A (TW g t z sf wf sg) → va_S A s.heap H locs → lv_has ls 6 [(4, .int 0), (3, .int 4), (2, .ref (t 1)), (1, .int q), (0, .ref (t 0))] → W p l e (rmD 0) s m args below meth c H locs 0 0 (MQ below (QI g A (beL z 4 8 0) (TW g t z sf wf sg)) args s 0 0 A) (F0 m 13 ls []) := by
    intro q ht ls H locs hP hD hS hl
    refine lv_iload hx hb dX3_bells_13 (lv_at hl 0 rfl) ?_
    refine lv_iload_n hx hb dX3_bells_15 rfl (lv_at hl 1 rfl) ?_
    refine lv_icmp_ge (tgt := 42) hx hb dX3_bells_16 (by decide) (fun q9 => absurd q9 (show ¬ (4 : Int32) ≤ (0 : Int32) from (by decide))) (fun c_8 => ?_)
    refine lv_aload_n hx hb dX3_bells_19 rfl (lv_at hl 2 rfl) ?_
    refine lv_iload hx hb dX3_bells_20 (lv_at hl 0 rfl) ?_
    refine x_aald (v := .ref (t 2)) X 1 2 0 hP rfl rfl rfl (by decide) (Nat.le_of_ble_eq_true rfl) rfl dX3_bells_22 ?_
    refine lv_astore (lv' := [(5, .ref (t 2)), (4, .int 0), (3, .int 4), (2, .ref (t 1)), (1, .int q), (0, .ref (t 0))]) hx hb dX3_bells_23 hl (by decide) rfl (fun ls hl => ?_)
    refine lv_aload hx hb dX3_bells_25 (lv_at hl 0 rfl) ?_
    refine x_get (v := .int (z 13)) X 2 5 in_X0 hP rfl rfl (by decide) wF_X3_120 rfl rfl dX3_bells_27 ?_
    refine lv_if_eq (tgt := 36) hx hb dX3_bells_30 (by decide) (fun (c_9 : (z 13) = 0) => ?_) (fun (c_9 : ¬ (z 13) = 0) => ?_)
    · refine lv_iinc (v := 1) (lv' := [(4, .int 1), (5, .ref (t 2)), (3, .int 4), (2, .ref (t 1)), (1, .int q), (0, .ref (t 0))]) hx hb dX3_bells_36 hl (k := 1) rfl rfl (by decide) rfl (fun ls hl => ?_)
      refine lv_goto (tgt := 13) hx hb dX3_bells_39 (by decide) ?_
      exact L13_1 q (by rw [← ht]; simp only [beL, if_pos c_9]) ls _ _ hP hD hS (lv_sub hl [0, 2, 3, 4, 5] rfl)
    · refine lv_iinc (v := (q + 1)) (lv' := [(1, .int (q + 1)), (5, .ref (t 2)), (4, .int 0), (3, .int 4), (2, .ref (t 1)), (0, .ref (t 0))]) hx hb dX3_bells_33 hl (k := 4) rfl rfl (by decide) rfl (fun ls hl => ?_)
      refine lv_iinc (v := 1) (lv' := [(4, .int 1), (1, .int (q + 1)), (5, .ref (t 2)), (3, .int 4), (2, .ref (t 1)), (0, .ref (t 0))]) hx hb dX3_bells_36 hl (k := 2) rfl rfl (by decide) rfl (fun ls hl => ?_)
      refine lv_goto (tgt := 13) hx hb dX3_bells_39 (by decide) ?_
      exact L13_1 (q + 1) (by rw [← ht]; simp only [beL, if_neg c_9]) ls _ _ hP hD hS (lv_sub hl [0, 3, 4, 1, 5] rfl)
  exact L13_0 0 rfl ls _ _ hP hD hS (lv_sub hl [0, 1, 2, 3, 4] rfl)

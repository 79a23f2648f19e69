def fbI (z : Nat → Int32) (mi pl : Int32) : Nat → Nat → Int32 → Int32 × Int32
  | 0, _, q => (-1, q)
  | n + 1, k, q => if z (8 + 7 * k + 5) = 0 then fbI z mi pl n (k + 1) q else if toH (z (8 + 7 * k)) = mi then (if q = pl then (nI k, q) else fbI z mi pl n (k + 1) (q + 1)) else fbI z mi pl n (k + 1) q
def fbO (z : Nat → Int32) (pl : Int32) : Nat → Nat → Int32 → Int32
  | 0, _, _ => -1
  | n + 1, mi, q => if (fbI z (nI mi) pl 4 0 q).1 = -1 then fbO z pl n (mi + 1) (fbI z (nI mi) pl 4 0 q).2 else (fbI z (nI mi) pl 4 0 q).1
set_option maxHeartbeats 4000000 in
set_option maxRecDepth 100000 in
theorem c_X3_faceOfBellInRound (l : Launch) (g : wG) (t : Nat → Nat) (z sf wf sg : Nat → Int32) (pl : Int32) : CtI l g 2 yX3_faceOfBellInRound cX3_faceOfBellInRound 6 (some .int) [.ref (t 0), .int pl] (TW g t z sf wf sg) (fbO z pl 60 1 0) (TW g t z sf wf sg) := by
  intro sz
  refine x_enter (Qc := fun A => QI g A (fbO z pl 60 1 0) (TW g t z sf wf sg)) (by decide) (Nat.le_of_ble_eq_true rfl) ?_
  intro p e s m args below meth c X hr hlocks A hA hP hD hS ls hl
  obtain ⟨⟨hx, hb, hml, hown, hts⟩, hK, hN⟩ := id X
  have hl : lv_has ls 6 [(0, .ref (t 0)), (1, .int pl)] := hl
  refine lv_iconst (v := 0) hx hb dX3_faceOfBellInRound_0 (by decide) ?_
  refine lv_istore_n (lv' := [(2, .int 0), (0, .ref (t 0)), (1, .int pl)]) hx hb dX3_faceOfBellInRound_1 rfl hl (by decide) rfl (fun ls hl => ?_)
  refine lv_iconst (v := 1) hx hb dX3_faceOfBellInRound_2 (by decide) ?_
  refine lv_istore_n (lv' := [(3, .int 1), (2, .int 0), (0, .ref (t 0)), (1, .int pl)]) hx hb dX3_faceOfBellInRound_3 rfl hl (by decide) rfl (fun ls hl => ?_)
  suffices LP4 : ∀ (n : Nat) (mi : Nat) (q0 : Int32), mi + n = 61 → fbO z pl n mi q0 = fbO z pl 60 1 0 → ∀ (ls : Array Slot) (H : Heap) (locs : List Loc), va_P g.1 vwCl (TW g t z sf wf sg) H → va_D A (TW g t z sf wf sg) → va_S A s.heap H locs → lv_has ls 6 [(3, .int (nI mi)), (2, .int q0), (0, .ref (t 0)), (1, .int pl)] → W p l e (rmD 2) s m args below meth c H locs 0 0 (MQ below (QI g A (fbO z pl 60 1 0) (TW g t z sf wf sg)) args s 0 0 A) (F0 m 4 ls []) from LP4 60 1 0 rfl rfl ls _ _ hP hD hS (lv_sub hl [0, 1, 2, 3] rfl)
  intro n
  induction n with
  | zero =>
    intro mi q0 hk ht ls H locs hP hD hS hl
    refine lv_iload_n hx hb dX3_faceOfBellInRound_4 rfl (lv_at hl 0 rfl) ?_
    refine lv_bipush (v := 60) hx hb dX3_faceOfBellInRound_5 (by decide) ?_
    refine lv_icmp_gt (tgt := 68) hx hb dX3_faceOfBellInRound_7 (by decide) (fun c_1 => ?_) (fun q9 => absurd (show 60 < (nI mi) from (nI_lt (a := 60) (by omega) (by omega))) (show ¬ (60 < (nI mi)) from q9))
    refine lv_iconst (v := (-1)) hx hb dX3_faceOfBellInRound_68 (by decide) ?_
    exact x_iret X hr hlocks hP hD hS ht dX3_faceOfBellInRound_69
  | succ n ih =>
    intro mi q0 hk ht ls H locs hP hD hS hl
    refine lv_iload_n hx hb dX3_faceOfBellInRound_4 rfl (lv_at hl 0 rfl) ?_
    refine lv_bipush (v := 60) hx hb dX3_faceOfBellInRound_5 (by decide) ?_
    refine lv_icmp_gt (tgt := 68) hx hb dX3_faceOfBellInRound_7 (by decide) (fun q9 => absurd q9 (show ¬ 60 < (nI mi) from (nI_nlt (a := 60) (by omega) (by decide)))) (fun c_2 => ?_)
    refine lv_iconst (v := 0) hx hb dX3_faceOfBellInRound_10 (by decide) ?_
    refine lv_istore (lv' := [(4, .int 0), (3, .int (nI mi)), (2, .int q0), (0, .ref (t 0)), (1, .int pl)]) hx hb dX3_faceOfBellInRound_11 hl (by decide) rfl (fun ls hl => ?_)
    have L13_4 : ∀ (r : Int32), fbI z (nI mi) pl 0 4 r = fbI z (nI mi) pl 4 0 q0 → ∀ (ls : Array Slot) (H : Heap) (locs : List Loc), va_P g.1 vwCl (TW g t z sf wf sg) H → va_D A (TW g t z sf wf sg) → va_S A s.heap H locs → lv_has ls 6 [(4, .int 4), (3, .int (nI mi)), (2, .int r), (0, .ref (t 0)), (1, .int pl)] → W p l e (rmD 2) s m args below meth c H locs 0 0 (MQ below (QI g A (fbO z pl 60 1 0) (TW g t z sf wf sg)) args s 0 0 A) (F0 m 13 ls []) := by
      intro r ht2 ls H locs hP hD hS hl
      refine lv_iload hx hb dX3_faceOfBellInRound_13 (lv_at hl 0 rfl) ?_
      refine lv_iconst (v := 4) hx hb dX3_faceOfBellInRound_15 (by decide) ?_
      refine lv_icmp_ge (tgt := 62) hx hb dX3_faceOfBellInRound_16 (by decide) (fun c_3 => ?_) (fun q9 => absurd (show (4 : Int32) ≤ (4 : Int32) from (by decide)) (show ¬ ((4 : Int32) ≤ (4 : Int32)) from q9))
      have hn : fbO z pl n (mi + 1) r = fbO z pl 60 1 0 := by rw [← ht]; simp only [fbO]; rw [← ht2]; rfl
      refine lv_iinc (v := (nI (mi + 1))) (lv' := [(3, .int (nI (mi + 1))), (4, .int 4), (2, .int r), (0, .ref (t 0)), (1, .int pl)]) hx hb dX3_faceOfBellInRound_62 hl (k := 1) rfl (nI_1 _) (by decide) rfl (fun ls hl => ?_)
      refine lv_goto (tgt := 4) hx hb dX3_faceOfBellInRound_65 (by decide) ?_
      exact ih (mi + 1) r (by omega) hn ls _ _ hP hD hS (lv_sub hl [0, 2, 3, 4] rfl)
    have L13_3 : ∀ (r : Int32), fbI z (nI mi) pl 1 3 r = fbI z (nI mi) pl 4 0 q0 → ∀ (ls : Array Slot) (H : Heap) (locs : List Loc), va_P g.1 vwCl (TW g t z sf wf sg) H → va_D A (TW g t z sf wf sg) → va_S A s.heap H locs → lv_has ls 6 [(4, .int 3), (3, .int (nI mi)), (2, .int r), (0, .ref (t 0)), (1, .int pl)] → W p l e (rmD 2) s m args below meth c H locs 0 0 (MQ below (QI g A (fbO z pl 60 1 0) (TW g t z sf wf sg)) args s 0 0 A) (F0 m 13 ls []) := by
      intro r ht2 ls H locs hP hD hS hl
      refine lv_iload hx hb dX3_faceOfBellInRound_13 (lv_at hl 0 rfl) ?_
      refine lv_iconst (v := 4) hx hb dX3_faceOfBellInRound_15 (by decide) ?_
      refine lv_icmp_ge (tgt := 62) hx hb dX3_faceOfBellInRound_16 (by decide) (fun q9 => absurd q9 (show ¬ (4 : Int32) ≤ (3 : Int32) from (by decide))) (fun c_4 => ?_)
      refine lv_aload_n hx hb dX3_faceOfBellInRound_19 rfl (lv_at hl 3 rfl) ?_
      refine x_get (v := .ref (t 1)) X 0 0 in_X3 hP rfl rfl (by decide) wF_X3_11 rfl rfl dX3_faceOfBellInRound_20 ?_
      refine lv_iload hx hb dX3_faceOfBellInRound_23 (lv_at hl 0 rfl) ?_
      refine x_aald (v := .ref (t 5)) X 1 2 3 hP rfl rfl rfl (by decide) (Nat.le_of_ble_eq_true rfl) rfl dX3_faceOfBellInRound_25 ?_
      refine lv_astore (lv' := [(5, .ref (t 5)), (4, .int 3), (3, .int (nI mi)), (2, .int r), (0, .ref (t 0)), (1, .int pl)]) hx hb dX3_faceOfBellInRound_26 hl (by decide) rfl (fun ls hl => ?_)
      refine lv_aload hx hb dX3_faceOfBellInRound_28 (lv_at hl 0 rfl) ?_
      refine x_get (v := .int (z 34)) X 5 5 in_X0 hP rfl rfl (by decide) wF_X3_120 rfl rfl dX3_faceOfBellInRound_30 ?_
      refine lv_if_eq (tgt := 56) hx hb dX3_faceOfBellInRound_33 (by decide) (fun (c_5 : (z 34) = 0) => ?_) (fun (c_5 : ¬ (z 34) = 0) => ?_)
      · refine lv_iinc (v := 4) (lv' := [(4, .int 4), (5, .ref (t 5)), (3, .int (nI mi)), (2, .int r), (0, .ref (t 0)), (1, .int pl)]) hx hb dX3_faceOfBellInRound_56 hl (k := 1) rfl rfl (by decide) rfl (fun ls hl => ?_)
        refine lv_goto (tgt := 13) hx hb dX3_faceOfBellInRound_59 (by decide) ?_
        exact L13_4 r (by rw [← ht2]; simp only [fbI, if_pos c_5]) ls _ _ hP hD hS (lv_sub hl [0, 2, 3, 4, 5] rfl)
      · refine lv_aload hx hb dX3_faceOfBellInRound_36 (lv_at hl 0 rfl) ?_
        refine x_goI (wn := TW g t z sf wf sg) (x_rV (As := []) X (c_X0_minutesToHour l g (t 5) (z 29) (z 30) (z 31) (z 32) (z 33) (z 34) (z 35) _) yf_X0_minutesToHour yi_X0_minutesToHour wM_X3_124 ⟨Nat.le_of_ble_eq_true rfl, Nat.le_of_ble_eq_true rfl⟩ hP hD (wo_perm (ws' := [_] ++ [_, _, _, _, _, _, _, _, _]) 10 [5, 0, 1, 2, 3, 4, 6, 7, 8, 9] rfl (by decide) rfl) 0 rfl rfl hl rfl rfl (Nat.le_of_ble_eq_true rfl) dX3_faceOfBellInRound_38 ⟨Nat.zero_le _, Nat.zero_le _⟩) hP hD hS hA (wo_perm (ws' := [_] ++ [_, _, _, _, _, _, _, _, _]) 10 [5, 0, 1, 2, 3, 4, 6, 7, 8, 9] rfl (by decide) rfl) (wo_perm 10 [0, 1, 2, 3, 4, 9, 5, 6, 7, 8] rfl (by decide) rfl) (fun H locs hP hD hS => ?_)
        refine lv_iload_n hx hb dX3_faceOfBellInRound_41 rfl (lv_at hl 2 rfl) ?_
        refine lv_icmp_ne (tgt := 56) hx hb dX3_faceOfBellInRound_42 (by decide) (fun (c_6 : ¬ (toH (z 29)) = (nI mi)) => ?_) (fun (c_6 : (toH (z 29)) = (nI mi)) => ?_)
        · refine lv_iinc (v := 4) (lv' := [(4, .int 4), (5, .ref (t 5)), (3, .int (nI mi)), (2, .int r), (0, .ref (t 0)), (1, .int pl)]) hx hb dX3_faceOfBellInRound_56 hl (k := 1) rfl rfl (by decide) rfl (fun ls hl => ?_)
          refine lv_goto (tgt := 13) hx hb dX3_faceOfBellInRound_59 (by decide) ?_
          exact L13_4 r (by rw [← ht2]; simp only [fbI, if_neg c_5, if_neg c_6]) ls _ _ hP hD hS (lv_sub hl [0, 2, 3, 4, 5] rfl)
        · refine lv_iload_n hx hb dX3_faceOfBellInRound_45 rfl (lv_at hl 3 rfl) ?_
          refine lv_iload_n hx hb dX3_faceOfBellInRound_46 rfl (lv_at hl 5 rfl) ?_
          refine lv_icmp_ne (tgt := 53) hx hb dX3_faceOfBellInRound_47 (by decide) (fun (c_7 : ¬ r = pl) => ?_) (fun (c_7 : r = pl) => ?_)
          · refine lv_iinc (v := (r + 1)) (lv' := [(2, .int (r + 1)), (5, .ref (t 5)), (4, .int 3), (3, .int (nI mi)), (0, .ref (t 0)), (1, .int pl)]) hx hb dX3_faceOfBellInRound_53 hl (k := 3) rfl rfl (by decide) rfl (fun ls hl => ?_)
            refine lv_iinc (v := 4) (lv' := [(4, .int 4), (2, .int (r + 1)), (5, .ref (t 5)), (3, .int (nI mi)), (0, .ref (t 0)), (1, .int pl)]) hx hb dX3_faceOfBellInRound_56 hl (k := 2) rfl rfl (by decide) rfl (fun ls hl => ?_)
            refine lv_goto (tgt := 13) hx hb dX3_faceOfBellInRound_59 (by decide) ?_
            exact L13_4 (r + 1) (by rw [← ht2]; simp only [fbI, if_neg c_5, if_pos c_6, if_neg c_7]) ls _ _ hP hD hS (lv_sub hl [0, 3, 1, 4, 5] rfl)
          · refine lv_iload hx hb dX3_faceOfBellInRound_50 (lv_at hl 1 rfl) ?_
            have hr2 : (fbI z (nI mi) pl 4 0 q0).1 = nI 3 := by rw [← ht2]; simp only [fbI, if_neg c_5, if_pos c_6, if_pos c_7]
            exact x_iret X hr hlocks hP hD hS (by rw [← ht]; simp only [fbO]; rw [hr2, if_neg (by decide)]; rfl) dX3_faceOfBellInRound_52
    have L13_2 : ∀ (r : Int32), fbI z (nI mi) pl 2 2 r = fbI z (nI mi) pl 4 0 q0 → ∀ (ls : Array Slot) (H : Heap) (locs : List Loc), va_P g.1 vwCl (TW g t z sf wf sg) H → va_D A (TW g t z sf wf sg) → va_S A s.heap H locs → lv_has ls 6 [(4, .int 2), (3, .int (nI mi)), (2, .int r), (0, .ref (t 0)), (1, .int pl)] → W p l e (rmD 2) s m args below meth c H locs 0 0 (MQ below (QI g A (fbO z pl 60 1 0) (TW g t z sf wf sg)) args s 0 0 A) (F0 m 13 ls []) := by
      intro r ht2 ls H locs hP hD hS hl
      refine lv_iload hx hb dX3_faceOfBellInRound_13 (lv_at hl 0 rfl) ?_
      refine lv_iconst (v := 4) hx hb dX3_faceOfBellInRound_15 (by decide) ?_
      refine lv_icmp_ge (tgt := 62) hx hb dX3_faceOfBellInRound_16 (by decide) (fun q9 => absurd q9 (show ¬ (4 : Int32) ≤ (2 : Int32) from (by decide))) (fun c_8 => ?_)
      refine lv_aload_n hx hb dX3_faceOfBellInRound_19 rfl (lv_at hl 3 rfl) ?_
      refine x_get (v := .ref (t 1)) X 0 0 in_X3 hP rfl rfl (by decide) wF_X3_11 rfl rfl dX3_faceOfBellInRound_20 ?_
      refine lv_iload hx hb dX3_faceOfBellInRound_23 (lv_at hl 0 rfl) ?_
      refine x_aald (v := .ref (t 4)) X 1 2 2 hP rfl rfl rfl (by decide) (Nat.le_of_ble_eq_true rfl) rfl dX3_faceOfBellInRound_25 ?_
      refine lv_astore (lv' := [(5, .ref (t 4)), (4, .int 2), (3, .int (nI mi)), (2, .int r), (0, .ref (t 0)), (1, .int pl)]) hx hb dX3_faceOfBellInRound_26 hl (by decide) rfl (fun ls hl => ?_)
      refine lv_aload hx hb dX3_faceOfBellInRound_28 (lv_at hl 0 rfl) ?_
      refine x_get (v := .int (z 27)) X 4 5 in_X0 hP rfl rfl (by decide) wF_X3_120 rfl rfl dX3_faceOfBellInRound_30 ?_
      refine lv_if_eq (tgt := 56) hx hb dX3_faceOfBellInRound_33 (by decide) (fun (c_9 : (z 27) = 0) => ?_) (fun (c_9 : ¬ (z 27) = 0) => ?_)
      · refine lv_iinc (v := 3) (lv' := [(4, .int 3), (5, .ref (t 4)), (3, .int (nI mi)), (2, .int r), (0, .ref (t 0)), (1, .int pl)]) hx hb dX3_faceOfBellInRound_56 hl (k := 1) rfl rfl (by decide) rfl (fun ls hl => ?_)
        refine lv_goto (tgt := 13) hx hb dX3_faceOfBellInRound_59 (by decide) ?_
        exact L13_3 r (by rw [← ht2]; simp only [fbI, if_pos c_9]) ls _ _ hP hD hS (lv_sub hl [0, 2, 3, 4, 5] rfl)
      · refine lv_aload hx hb dX3_faceOfBellInRound_36 (lv_at hl 0 rfl) ?_
        refine x_goI (wn := TW g t z sf wf sg) (x_rV (As := []) X (c_X0_minutesToHour l g (t 4) (z 22) (z 23) (z 24) (z 25) (z 26) (z 27) (z 28) _) yf_X0_minutesToHour yi_X0_minutesToHour wM_X3_124 ⟨Nat.le_of_ble_eq_true rfl, Nat.le_of_ble_eq_true rfl⟩ hP hD (wo_perm (ws' := [_] ++ [_, _, _, _, _, _, _, _, _]) 10 [4, 0, 1, 2, 3, 5, 6, 7, 8, 9] rfl (by decide) rfl) 0 rfl rfl hl rfl rfl (Nat.le_of_ble_eq_true rfl) dX3_faceOfBellInRound_38 ⟨Nat.zero_le _, Nat.zero_le _⟩) hP hD hS hA (wo_perm (ws' := [_] ++ [_, _, _, _, _, _, _, _, _]) 10 [4, 0, 1, 2, 3, 5, 6, 7, 8, 9] rfl (by decide) rfl) (wo_perm 10 [0, 1, 2, 3, 9, 4, 5, 6, 7, 8] rfl (by decide) rfl) (fun H locs hP hD hS => ?_)
        refine lv_iload_n hx hb dX3_faceOfBellInRound_41 rfl (lv_at hl 2 rfl) ?_
        refine lv_icmp_ne (tgt := 56) hx hb dX3_faceOfBellInRound_42 (by decide) (fun (c_10 : ¬ (toH (z 22)) = (nI mi)) => ?_) (fun (c_10 : (toH (z 22)) = (nI mi)) => ?_)
        · refine lv_iinc (v := 3) (lv' := [(4, .int 3), (5, .ref (t 4)), (3, .int (nI mi)), (2, .int r), (0, .ref (t 0)), (1, .int pl)]) hx hb dX3_faceOfBellInRound_56 hl (k := 1) rfl rfl (by decide) rfl (fun ls hl => ?_)
          refine lv_goto (tgt := 13) hx hb dX3_faceOfBellInRound_59 (by decide) ?_
          exact L13_3 r (by rw [← ht2]; simp only [fbI, if_neg c_9, if_neg c_10]) ls _ _ hP hD hS (lv_sub hl [0, 2, 3, 4, 5] rfl)
        · refine lv_iload_n hx hb dX3_faceOfBellInRound_45 rfl (lv_at hl 3 rfl) ?_
          refine lv_iload_n hx hb dX3_faceOfBellInRound_46 rfl (lv_at hl 5 rfl) ?_
          refine lv_icmp_ne (tgt := 53) hx hb dX3_faceOfBellInRound_47 (by decide) (fun (c_11 : ¬ r = pl) => ?_) (fun (c_11 : r = pl) => ?_)
          · refine lv_iinc (v := (r + 1)) (lv' := [(2, .int (r + 1)), (5, .ref (t 4)), (4, .int 2), (3, .int (nI mi)), (0, .ref (t 0)), (1, .int pl)]) hx hb dX3_faceOfBellInRound_53 hl (k := 3) rfl rfl (by decide) rfl (fun ls hl => ?_)
            refine lv_iinc (v := 3) (lv' := [(4, .int 3), (2, .int (r + 1)), (5, .ref (t 4)), (3, .int (nI mi)), (0, .ref (t 0)), (1, .int pl)]) hx hb dX3_faceOfBellInRound_56 hl (k := 2) rfl rfl (by decide) rfl (fun ls hl => ?_)
            refine lv_goto (tgt := 13) hx hb dX3_faceOfBellInRound_59 (by decide) ?_
            exact L13_3 (r + 1) (by rw [← ht2]; simp only [fbI, if_neg c_9, if_pos c_10, if_neg c_11]) ls _ _ hP hD hS (lv_sub hl [0, 3, 1, 4, 5] rfl)
          · refine lv_iload hx hb dX3_faceOfBellInRound_50 (lv_at hl 1 rfl) ?_
            have hr2 : (fbI z (nI mi) pl 4 0 q0).1 = nI 2 := by rw [← ht2]; simp only [fbI, if_neg c_9, if_pos c_10, if_pos c_11]
            exact x_iret X hr hlocks hP hD hS (by rw [← ht]; simp only [fbO]; rw [hr2, if_neg (by decide)]; rfl) dX3_faceOfBellInRound_52
    have L13_1 : ∀ (r : Int32), fbI z (nI mi) pl 3 1 r = fbI z (nI mi) pl 4 0 q0 → ∀ (ls : Array Slot) (H : Heap) (locs : List Loc), va_P g.1 vwCl (TW g t z sf wf sg) H → va_D A (TW g t z sf wf sg) → va_S A s.heap H locs → lv_has ls 6 [(4, .int 1), (3, .int (nI mi)), (2, .int r), (0, .ref (t 0)), (1, .int pl)] → W p l e (rmD 2) s m args below meth c H locs 0 0 (MQ below (QI g A (fbO z pl 60 1 0) (TW g t z sf wf sg)) args s 0 0 A) (F0 m 13 ls []) := by
      intro r ht2 ls H locs hP hD hS hl
      refine lv_iload hx hb dX3_faceOfBellInRound_13 (lv_at hl 0 rfl) ?_
      refine lv_iconst (v := 4) hx hb dX3_faceOfBellInRound_15 (by decide) ?_
      refine lv_icmp_ge (tgt := 62) hx hb dX3_faceOfBellInRound_16 (by decide) (fun q9 => absurd q9 (show ¬ (4 : Int32) ≤ (1 : Int32) from (by decide))) (fun c_12 => ?_)
      refine lv_aload_n hx hb dX3_faceOfBellInRound_19 rfl (lv_at hl 3 rfl) ?_
      refine x_get (v := .ref (t 1)) X 0 0 in_X3 hP rfl rfl (by decide) wF_X3_11 rfl rfl dX3_faceOfBellInRound_20 ?_
      refine lv_iload hx hb dX3_faceOfBellInRound_23 (lv_at hl 0 rfl) ?_
      refine x_aald (v := .ref (t 3)) X 1 2 1 hP rfl rfl rfl (by decide) (Nat.le_of_ble_eq_true rfl) rfl dX3_faceOfBellInRound_25 ?_
      refine lv_astore (lv' := [(5, .ref (t 3)), (4, .int 1), (3, .int (nI mi)), (2, .int r), (0, .ref (t 0)), (1, .int pl)]) hx hb dX3_faceOfBellInRound_26 hl (by decide) rfl (fun ls hl => ?_)
      refine lv_aload hx hb dX3_faceOfBellInRound_28 (lv_at hl 0 rfl) ?_
      refine x_get (v := .int (z 20)) X 3 5 in_X0 hP rfl rfl (by decide) wF_X3_120 rfl rfl dX3_faceOfBellInRound_30 ?_
      refine lv_if_eq (tgt := 56) hx hb dX3_faceOfBellInRound_33 (by decide) (fun (c_13 : (z 20) = 0) => ?_) (fun (c_13 : ¬ (z 20) = 0) => ?_)
      · refine lv_iinc (v := 2) (lv' := [(4, .int 2), (5, .ref (t 3)), (3, .int (nI mi)), (2, .int r), (0, .ref (t 0)), (1, .int pl)]) hx hb dX3_faceOfBellInRound_56 hl (k := 1) rfl rfl (by decide) rfl (fun ls hl => ?_)
        refine lv_goto (tgt := 13) hx hb dX3_faceOfBellInRound_59 (by decide) ?_
        exact L13_2 r (by rw [← ht2]; simp only [fbI, if_pos c_13]) ls _ _ hP hD hS (lv_sub hl [0, 2, 3, 4, 5] rfl)
      · refine lv_aload hx hb dX3_faceOfBellInRound_36 (lv_at hl 0 rfl) ?_
        refine x_goI (wn := TW g t z sf wf sg) (x_rV (As := []) X (c_X0_minutesToHour l g (t 3) (z 15) (z 16) (z 17) (z 18) (z 19) (z 20) (z 21) _) yf_X0_minutesToHour yi_X0_minutesToHour wM_X3_124 ⟨Nat.le_of_ble_eq_true rfl, Nat.le_of_ble_eq_true rfl⟩ hP hD (wo_perm (ws' := [_] ++ [_, _, _, _, _, _, _, _, _]) 10 [3, 0, 1, 2, 4, 5, 6, 7, 8, 9] rfl (by decide) rfl) 0 rfl rfl hl rfl rfl (Nat.le_of_ble_eq_true rfl) dX3_faceOfBellInRound_38 ⟨Nat.zero_le _, Nat.zero_le _⟩) hP hD hS hA (wo_perm (ws' := [_] ++ [_, _, _, _, _, _, _, _, _]) 10 [3, 0, 1, 2, 4, 5, 6, 7, 8, 9] rfl (by decide) rfl) (wo_perm 10 [0, 1, 2, 9, 3, 4, 5, 6, 7, 8] rfl (by decide) rfl) (fun H locs hP hD hS => ?_)
        refine lv_iload_n hx hb dX3_faceOfBellInRound_41 rfl (lv_at hl 2 rfl) ?_
        refine lv_icmp_ne (tgt := 56) hx hb dX3_faceOfBellInRound_42 (by decide) (fun (c_14 : ¬ (toH (z 15)) = (nI mi)) => ?_) (fun (c_14 : (toH (z 15)) = (nI mi)) => ?_)
        · refine lv_iinc (v := 2) (lv' := [(4, .int 2), (5, .ref (t 3)), (3, .int (nI mi)), (2, .int r), (0, .ref (t 0)), (1, .int pl)]) hx hb dX3_faceOfBellInRound_56 hl (k := 1) rfl rfl (by decide) rfl (fun ls hl => ?_)
          refine lv_goto (tgt := 13) hx hb dX3_faceOfBellInRound_59 (by decide) ?_
          exact L13_2 r (by rw [← ht2]; simp only [fbI, if_neg c_13, if_neg c_14]) ls _ _ hP hD hS (lv_sub hl [0, 2, 3, 4, 5] rfl)
        · refine lv_iload_n hx hb dX3_faceOfBellInRound_45 rfl (lv_at hl 3 rfl) ?_
          refine lv_iload_n hx hb dX3_faceOfBellInRound_46 rfl (lv_at hl 5 rfl) ?_
          refine lv_icmp_ne (tgt := 53) hx hb dX3_faceOfBellInRound_47 (by decide) (fun (c_15 : ¬ r = pl) => ?_) (fun (c_15 : r = pl) => ?_)
          · refine lv_iinc (v := (r + 1)) (lv' := [(2, .int (r + 1)), (5, .ref (t 3)), (4, .int 1), (3, .int (nI mi)), (0, .ref (t 0)), (1, .int pl)]) hx hb dX3_faceOfBellInRound_53 hl (k := 3) rfl rfl (by decide) rfl (fun ls hl => ?_)
            refine lv_iinc (v := 2) (lv' := [(4, .int 2), (2, .int (r + 1)), (5, .ref (t 3)), (3, .int (nI mi)), (0, .ref (t 0)), (1, .int pl)]) hx hb dX3_faceOfBellInRound_56 hl (k := 2) rfl rfl (by decide) rfl (fun ls hl => ?_)
            refine lv_goto (tgt := 13) hx hb dX3_faceOfBellInRound_59 (by decide) ?_
            exact L13_2 (r + 1) (by rw [← ht2]; simp only [fbI, if_neg c_13, if_pos c_14, if_neg c_15]) ls _ _ hP hD hS (lv_sub hl [0, 3, 1, 4, 5] rfl)
          · refine lv_iload hx hb dX3_faceOfBellInRound_50 (lv_at hl 1 rfl) ?_
            have hr2 : (fbI z (nI mi) pl 4 0 q0).1 = nI 1 := by rw [← ht2]; simp only [fbI, if_neg c_13, if_pos c_14, if_pos c_15]
            exact x_iret X hr hlocks hP hD hS (by rw [← ht]; simp only [fbO]; rw [hr2, if_neg (by decide)]; rfl) dX3_faceOfBellInRound_52
    have L13_0 : ∀ (r : Int32), fbI z (nI mi) pl 4 0 r = fbI z (nI mi) pl 4 0 q0 → ∀ (ls : Array Slot) (H : Heap) (locs : List Loc), va_P g.1 vwCl (TW g t z sf wf sg) H → va_D A (TW g t z sf wf sg) → va_S A s.heap H locs → lv_has ls 6 [(4, .int 0), (3, .int (nI mi)), (2, .int r), (0, .ref (t 0)), (1, .int pl)] → W p l e (rmD 2) s m args below meth c H locs 0 0 (MQ below (QI g A (fbO z pl 60 1 0) (TW g t z sf wf sg)) args s 0 0 A) (F0 m 13 ls []) := by
      intro r ht2 ls H locs hP hD hS hl
      refine lv_iload hx hb dX3_faceOfBellInRound_13 (lv_at hl 0 rfl) ?_
      refine lv_iconst (v := 4) hx hb dX3_faceOfBellInRound_15 (by decide) ?_
      refine lv_icmp_ge (tgt := 62) hx hb dX3_faceOfBellInRound_16 (by decide) (fun q9 => absurd q9 (show ¬ (4 : Int32) ≤ (0 : Int32) from (by decide))) (fun c_16 => ?_)
      refine lv_aload_n hx hb dX3_faceOfBellInRound_19 rfl (lv_at hl 3 rfl) ?_
      refine x_get (v := .ref (t 1)) X 0 0 in_X3 hP rfl rfl (by decide) wF_X3_11 rfl rfl dX3_faceOfBellInRound_20 ?_
      refine lv_iload hx hb dX3_faceOfBellInRound_23 (lv_at hl 0 rfl) ?_
      refine x_aald (v := .ref (t 2)) X 1 2 0 hP rfl rfl rfl (by decide) (Nat.le_of_ble_eq_true rfl) rfl dX3_faceOfBellInRound_25 ?_
      refine lv_astore (lv' := [(5, .ref (t 2)), (4, .int 0), (3, .int (nI mi)), (2, .int r), (0, .ref (t 0)), (1, .int pl)]) hx hb dX3_faceOfBellInRound_26 hl (by decide) rfl (fun ls hl => ?_)
      refine lv_aload hx hb dX3_faceOfBellInRound_28 (lv_at hl 0 rfl) ?_
      refine x_get (v := .int (z 13)) X 2 5 in_X0 hP rfl rfl (by decide) wF_X3_120 rfl rfl dX3_faceOfBellInRound_30 ?_
      refine lv_if_eq (tgt := 56) hx hb dX3_faceOfBellInRound_33 (by decide) (fun (c_17 : (z 13) = 0) => ?_) (fun (c_17 : ¬ (z 13) = 0) => ?_)
      · refine lv_iinc (v := 1) (lv' := [(4, .int 1), (5, .ref (t 2)), (3, .int (nI mi)), (2, .int r), (0, .ref (t 0)), (1, .int pl)]) hx hb dX3_faceOfBellInRound_56 hl (k := 1) rfl rfl (by decide) rfl (fun ls hl => ?_)
        refine lv_goto (tgt := 13) hx hb dX3_faceOfBellInRound_59 (by decide) ?_
        exact L13_1 r (by rw [← ht2]; simp only [fbI, if_pos c_17]) ls _ _ hP hD hS (lv_sub hl [0, 2, 3, 4, 5] rfl)
      · refine lv_aload hx hb dX3_faceOfBellInRound_36 (lv_at hl 0 rfl) ?_
        refine x_goI (wn := TW g t z sf wf sg) (x_rV (As := []) X (c_X0_minutesToHour l g (t 2) (z 8) (z 9) (z 10) (z 11) (z 12) (z 13) (z 14) _) yf_X0_minutesToHour yi_X0_minutesToHour wM_X3_124 ⟨Nat.le_of_ble_eq_true rfl, Nat.le_of_ble_eq_true rfl⟩ hP hD (wo_perm (ws' := [_] ++ [_, _, _, _, _, _, _, _, _]) 10 [2, 0, 1, 3, 4, 5, 6, 7, 8, 9] rfl (by decide) rfl) 0 rfl rfl hl rfl rfl (Nat.le_of_ble_eq_true rfl) dX3_faceOfBellInRound_38 ⟨Nat.zero_le _, Nat.zero_le _⟩) hP hD hS hA (wo_perm (ws' := [_] ++ [_, _, _, _, _, _, _, _, _]) 10 [2, 0, 1, 3, 4, 5, 6, 7, 8, 9] rfl (by decide) rfl) (wo_perm 10 [0, 1, 9, 2, 3, 4, 5, 6, 7, 8] rfl (by decide) rfl) (fun H locs hP hD hS => ?_)
        refine lv_iload_n hx hb dX3_faceOfBellInRound_41 rfl (lv_at hl 2 rfl) ?_
        refine lv_icmp_ne (tgt := 56) hx hb dX3_faceOfBellInRound_42 (by decide) (fun (c_18 : ¬ (toH (z 8)) = (nI mi)) => ?_) (fun (c_18 : (toH (z 8)) = (nI mi)) => ?_)
        · refine lv_iinc (v := 1) (lv' := [(4, .int 1), (5, .ref (t 2)), (3, .int (nI mi)), (2, .int r), (0, .ref (t 0)), (1, .int pl)]) hx hb dX3_faceOfBellInRound_56 hl (k := 1) rfl rfl (by decide) rfl (fun ls hl => ?_)
          refine lv_goto (tgt := 13) hx hb dX3_faceOfBellInRound_59 (by decide) ?_
          exact L13_1 r (by rw [← ht2]; simp only [fbI, if_neg c_17, if_neg c_18]) ls _ _ hP hD hS (lv_sub hl [0, 2, 3, 4, 5] rfl)
        · refine lv_iload_n hx hb dX3_faceOfBellInRound_45 rfl (lv_at hl 3 rfl) ?_
          refine lv_iload_n hx hb dX3_faceOfBellInRound_46 rfl (lv_at hl 5 rfl) ?_
          refine lv_icmp_ne (tgt := 53) hx hb dX3_faceOfBellInRound_47 (by decide) (fun (c_19 : ¬ r = pl) => ?_) (fun (c_19 : r = pl) => ?_)
          · refine lv_iinc (v := (r + 1)) (lv' := [(2, .int (r + 1)), (5, .ref (t 2)), (4, .int 0), (3, .int (nI mi)), (0, .ref (t 0)), (1, .int pl)]) hx hb dX3_faceOfBellInRound_53 hl (k := 3) rfl rfl (by decide) rfl (fun ls hl => ?_)
            refine lv_iinc (v := 1) (lv' := [(4, .int 1), (2, .int (r + 1)), (5, .ref (t 2)), (3, .int (nI mi)), (0, .ref (t 0)), (1, .int pl)]) hx hb dX3_faceOfBellInRound_56 hl (k := 2) rfl rfl (by decide) rfl (fun ls hl => ?_)
            refine lv_goto (tgt := 13) hx hb dX3_faceOfBellInRound_59 (by decide) ?_
            exact L13_1 (r + 1) (by rw [← ht2]; simp only [fbI, if_neg c_17, if_pos c_18, if_neg c_19]) ls _ _ hP hD hS (lv_sub hl [0, 3, 1, 4, 5] rfl)
          · refine lv_iload hx hb dX3_faceOfBellInRound_50 (lv_at hl 1 rfl) ?_
            have hr2 : (fbI z (nI mi) pl 4 0 q0).1 = nI 0 := by rw [← ht2]; simp only [fbI, if_neg c_17, if_pos c_18, if_pos c_19]
            exact x_iret X hr hlocks hP hD hS (by rw [← ht]; simp only [fbO]; rw [hr2, if_neg (by decide)]; rfl) dX3_faceOfBellInRound_52
    exact L13_0 q0 rfl ls _ _ hP hD hS (lv_sub hl [0, 1, 2, 3, 4] rfl)

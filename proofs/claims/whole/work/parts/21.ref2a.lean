def rlM (due : Int32) : Nat → Nat → RI → Int32 → RI × Int32
  | 0, _, z, q => (z, q)
  | n + 1, o, z, q => if distM (z o) due ≤ z 2 then rlM due n (o + 7) z q else rlM due n (o + 7) (upd (upd z o due) (o + 2) 0) (q + 1)
def dueM (cn : Nat) (z : RI) : Int32 := tmM z (owN z (jrem (z 0) 1440) cn)
def rzM (cn : Nat) (z : RI) : RI := upd (rlM (dueM cn z) 4 8 z 0).1 6 ((rlM (dueM cn z) 4 8 z 0).1 6 + (rlM (dueM cn z) 4 8 z 0).2)
def rrM (cn : Nat) (z : RI) : Int32 := (rlM (dueM cn z) 4 8 z 0).2
theorem hpos {x : Int32} {cn : Nat} (hz : x = nI cn) (h : ¬ x ≤ 0) : 1 ≤ cn := by
  rcases Nat.eq_zero_or_pos cn with e | e
  · subst e; exact absurd (by rw [hz]; decide) h
  · exact e
set_option maxHeartbeats 4000000 in
set_option maxRecDepth 100000 in
theorem c_X6_resets (l : Launch) (g : wG) (o : Nat → Nat) (r : MS) (cn : Nat) (hc : cn ≤ 6) (hz : mZ r 7 = nI cn) (h1 : 1 ≤ cn) : CtI l g 3 yX6_resets cX6_resets 4 (some .int) [.ref (o 0)] (MW g o r) (rrM cn (mZ r)) (MW g o (mz r (rzM cn (mZ r)))) := by
  intro sz
  refine x_enter (Qc := fun A => QI g A (rrM cn (mZ r)) (MW g o (mz r (rzM cn (mZ r))))) (by decide) (Nat.le_of_ble_eq_true rfl) ?_
  intro p e s m args below meth c X hr hlocks A hA hP hD hS ls hl
  obtain ⟨⟨hx, hb, hml, hown, hts⟩, hK, hN⟩ := id X
  have hl : lv_has ls 4 [(0, .ref (o 0))] := hl
  refine lv_aload_n hx hb dX6_resets_0 rfl (lv_at hl 0 rfl) ?_
  refine lv_aload_n hx hb dX6_resets_1 rfl (lv_at hl 0 rfl) ?_
  refine lv_aload_n hx hb dX6_resets_2 rfl (lv_at hl 0 rfl) ?_
  refine x_goI (wn := MW g o r) (x_rV (As := []) X (c_X6_minuteOfDay l g o r   _) yf_X6_minuteOfDay yi_X6_minuteOfDay wM_X6_79 ⟨Nat.le_of_ble_eq_true rfl, Nat.le_of_ble_eq_true rfl⟩ hP hD (p_all _) 0 rfl rfl hl rfl rfl (Nat.le_of_ble_eq_true rfl) dX6_resets_3 ⟨Nat.zero_le _, Nat.zero_le _⟩) hP hD hS hA (p_all _) (p_back _) (fun H locs hP hD hS => ?_)
  refine x_goI (wn := MW g o r) (x_rV (As := [.int (jrem ((mZ r) 0) 1440)]) X (c_X6_onWatch l g o r cn hc hz h1 (jrem ((mZ r) 0) 1440)  _) yf_X6_onWatch yi_X6_onWatch wM_X6_114 ⟨Nat.le_of_ble_eq_true rfl, Nat.le_of_ble_eq_true rfl⟩ hP hD (p_all _) 0 rfl rfl hl rfl rfl (Nat.le_of_ble_eq_true rfl) dX6_resets_6 ⟨Nat.zero_le _, Nat.zero_le _⟩) hP hD hS hA (p_all _) (p_back _) (fun H locs hP hD hS => ?_)
  refine x_goI (wn := MW g o r) (x_rV (As := [.int (nI (owN (mZ r) (jrem ((mZ r) 0) 1440) cn))]) X (c_X6_timeOf l g o r (owN (mZ r) (jrem ((mZ r) 0) 1440) cn) (Nat.lt_of_lt_of_le (owN_lt _ _ h1) hc)  _) yf_X6_timeOf yi_X6_timeOf wM_X6_117 ⟨Nat.le_of_ble_eq_true rfl, Nat.le_of_ble_eq_true rfl⟩ hP hD (p_all _) 0 rfl rfl hl rfl rfl (Nat.le_of_ble_eq_true rfl) dX6_resets_9 ⟨Nat.zero_le _, Nat.zero_le _⟩) hP hD hS hA (p_all _) (p_back _) (fun H locs hP hD hS => ?_)
  refine lv_istore_n (lv' := [(1, .int (tmM (mZ r) (owN (mZ r) (jrem ((mZ r) 0) 1440) cn))), (0, .ref (o 0))]) hx hb dX6_resets_12 rfl hl (by decide) rfl (fun ls hl => ?_)
  refine lv_iconst (v := 0) hx hb dX6_resets_13 (by decide) ?_
  refine lv_istore_n (lv' := [(2, .int 0), (1, .int (tmM (mZ r) (owN (mZ r) (jrem ((mZ r) 0) 1440) cn))), (0, .ref (o 0))]) hx hb dX6_resets_14 rfl hl (by decide) rfl (fun ls hl => ?_)
  refine lv_iconst (v := 0) hx hb dX6_resets_15 (by decide) ?_
  refine lv_istore_n (lv' := [(3, .int 0), (2, .int 0), (1, .int (tmM (mZ r) (owN (mZ r) (jrem ((mZ r) 0) 1440) cn))), (0, .ref (o 0))]) hx hb dX6_resets_16 rfl hl (by decide) rfl (fun ls hl => ?_)
  have L17_4 : ∀ (y : RI) (q : Int32), rlM (dueM cn (mZ r)) 0 36 y q = rlM (dueM cn (mZ r)) 4 8 (mZ r) 0 → ∀ (ls : Array Slot) (H : Heap) (locs : List Loc), va_P g.1 vwCl (MW g o (mz r y)) H → va_D A (MW g o (mz r y)) → va_S A s.heap H locs → lv_has ls 4 [(3, .int 4), (2, .int q), (1, .int (dueM cn (mZ r))), (0, .ref (o 0))] → W p l e (rmD 3) s m args below meth c H locs 0 0 (MQ below (QI g A (rrM cn (mZ r)) (MW g o (mz r (rzM cn (mZ r))))) args s 0 0 A) (F0 m 17 ls []) := by
    intro y q ht ls H locs hP hD hS hl
    refine lv_iload_n hx hb dX6_resets_17 rfl (lv_at hl 0 rfl) ?_
    refine lv_iconst (v := 4) hx hb dX6_resets_18 (by decide) ?_
    refine lv_icmp_ge (tgt := 64) hx hb dX6_resets_19 (by decide) (fun c_1 => ?_) (fun q9 => absurd (show (4 : Int32) ≤ (4 : Int32) from (by decide)) (show ¬ ((4 : Int32) ≤ (4 : Int32)) from q9))
    refine lv_aload_n hx hb dX6_resets_64 rfl (lv_at hl 3 rfl) ?_
    refine x_get (v := .ref (o 1)) X 0 0 in_X6 hP rfl rfl (by decide) wF_X6_7 rfl rfl dX6_resets_65 ?_
    refine lv_bipush (v := 6) hx hb dX6_resets_68 (by decide) ?_
    refine lv_dup2_11 hx hb dX6_resets_70 rfl rfl ?_
    refine x_iald (v := (y 6)) X 1 6 hP rfl rfl (by decide) (Nat.le_of_ble_eq_true rfl) rfl dX6_resets_71 ?_
    refine lv_iload_n hx hb dX6_resets_72 rfl (lv_at hl 1 rfl) ?_
    refine lv_iadd hx hb dX6_resets_73 ?_
    refine x_iast (ws2 := MW g o (mz r (upd y 6 ((y 6) + q)))) X 1 6 hP hD hS rfl rfl (by decide) (Nat.le_of_ble_eq_true rfl) rfl dX6_resets_74 (fun H locs hP hD hS => ?_)
    refine lv_iload_n hx hb dX6_resets_75 rfl (lv_at hl 1 rfl) ?_
    have E : (MW g o (mz r (upd y 6 ((y 6) + q))) : va_W) = MW g o (mz r (rzM cn (mZ r))) := by unfold rzM; rw [← ht]; rfl
    exact x_iret X hr hlocks (pw E hP) (dw E hD) hS (by unfold rrM; rw [← ht]; rfl) dX6_resets_76
  have L17_3 : ∀ (y : RI) (q : Int32), rlM (dueM cn (mZ r)) 1 29 y q = rlM (dueM cn (mZ r)) 4 8 (mZ r) 0 → ∀ (ls : Array Slot) (H : Heap) (locs : List Loc), va_P g.1 vwCl (MW g o (mz r y)) H → va_D A (MW g o (mz r y)) → va_S A s.heap H locs → lv_has ls 4 [(3, .int 3), (2, .int q), (1, .int (dueM cn (mZ r))), (0, .ref (o 0))] → W p l e (rmD 3) s m args below meth c H locs 0 0 (MQ below (QI g A (rrM cn (mZ r)) (MW g o (mz r (rzM cn (mZ r))))) args s 0 0 A) (F0 m 17 ls []) := by
    intro y q ht ls H locs hP hD hS hl
    refine lv_iload_n hx hb dX6_resets_17 rfl (lv_at hl 0 rfl) ?_
    refine lv_iconst (v := 4) hx hb dX6_resets_18 (by decide) ?_
    refine lv_icmp_ge (tgt := 64) hx hb dX6_resets_19 (by decide) (fun q9 => absurd q9 (show ¬ (4 : Int32) ≤ (3 : Int32) from (by decide))) (fun c_2 => ?_)
    refine lv_aload_n hx hb dX6_resets_22 rfl (lv_at hl 3 rfl) ?_
    refine lv_iload_n hx hb dX6_resets_23 rfl (lv_at hl 0 rfl) ?_
    refine lv_iconst (v := 0) hx hb dX6_resets_24 (by decide) ?_
    refine x_goI (wn := MW g o (mz r y)) (x_rV (As := [.int 3, .int 0]) X (c_X6_of l g o (mz r y) 3 0 (by decide) (by decide)  _) yf_X6_of yi_X6_of wM_X6_56 ⟨Nat.le_of_ble_eq_true rfl, Nat.le_of_ble_eq_true rfl⟩ hP hD (p_all _) 0 rfl rfl hl rfl rfl (Nat.le_of_ble_eq_true rfl) dX6_resets_25 ⟨Nat.zero_le _, Nat.zero_le _⟩) hP hD hS hA (p_all _) (p_back _) (fun H locs hP hD hS => ?_)
    refine lv_iload_n hx hb dX6_resets_28 rfl (lv_at hl 2 rfl) ?_
    refine x_goI (wn := MW g o (mz r y)) (x_rS (As := [.int (y 29), .int (dueM cn (mZ r))]) X (c_X6_distance l g (y 29) (dueM cn (mZ r)) _) yf_X6_distance ys_X6_distance wM_X6_64 ⟨Nat.le_of_ble_eq_true rfl, Nat.le_of_ble_eq_true rfl⟩ hP hD (p_none _) hl rfl rfl (Nat.le_of_ble_eq_true rfl) dX6_resets_29 ⟨Nat.zero_le _, Nat.zero_le _⟩) hP hD hS hA (p_none _) (p_noneB _) (fun H locs hP hD hS => ?_)
    refine lv_aload_n hx hb dX6_resets_32 rfl (lv_at hl 3 rfl) ?_
    refine x_get (v := .ref (o 1)) X 0 0 in_X6 hP rfl rfl (by decide) wF_X6_7 rfl rfl dX6_resets_33 ?_
    refine lv_iconst (v := 2) hx hb dX6_resets_36 (by decide) ?_
    refine x_iald (v := (y 2)) X 1 2 hP rfl rfl (by decide) (Nat.le_of_ble_eq_true rfl) rfl dX6_resets_37 ?_
    refine lv_icmp_le (tgt := 58) hx hb dX6_resets_38 (by decide) (fun (c_3 : (distM (y 29) (dueM cn (mZ r))) ≤ (y 2)) => ?_) (fun (c_3 : ¬ (distM (y 29) (dueM cn (mZ r))) ≤ (y 2)) => ?_)
    · refine lv_iinc (v := 4) (lv' := [(3, .int 4), (2, .int q), (1, .int (dueM cn (mZ r))), (0, .ref (o 0))]) hx hb dX6_resets_58 hl (k := 0) rfl rfl (by decide) rfl (fun ls hl => ?_)
      refine lv_goto (tgt := 17) hx hb dX6_resets_61 (by decide) ?_
      exact L17_4 y q (by rw [← ht]; simp only [rlM, if_pos c_3]) ls _ _ hP hD hS (lv_sub hl [0, 1, 2, 3] rfl)
    · refine lv_aload_n hx hb dX6_resets_41 rfl (lv_at hl 3 rfl) ?_
      refine lv_iload_n hx hb dX6_resets_42 rfl (lv_at hl 0 rfl) ?_
      refine lv_iconst (v := 0) hx hb dX6_resets_43 (by decide) ?_
      refine lv_iload_n hx hb dX6_resets_44 rfl (lv_at hl 2 rfl) ?_
      refine x_goV (wn := MW g o (mz r (upd y 29 (dueM cn (mZ r))))) (x_rV (As := [.int 3, .int 0, .int (dueM cn (mZ r))]) X (c_X6_lays l g o (mz r y) 3 0 (by decide) (by decide) (dueM cn (mZ r))  _) yf_X6_lays yi_X6_lays wM_X6_29 ⟨Nat.le_of_ble_eq_true rfl, Nat.le_of_ble_eq_true rfl⟩ hP hD (p_all _) 0 rfl rfl hl rfl rfl (Nat.le_of_ble_eq_true rfl) dX6_resets_45 ⟨Nat.zero_le _, Nat.zero_le _⟩) hP hD hS hA (p_all _) (p_back _) (fun H locs hP hD hS => ?_)
      refine lv_aload_n hx hb dX6_resets_48 rfl (lv_at hl 3 rfl) ?_
      refine lv_iload_n hx hb dX6_resets_49 rfl (lv_at hl 0 rfl) ?_
      refine lv_iconst (v := 2) hx hb dX6_resets_50 (by decide) ?_
      refine lv_iconst (v := 0) hx hb dX6_resets_51 (by decide) ?_
      refine x_goV (wn := MW g o (mz r (upd (upd y 29 (dueM cn (mZ r))) 31 0))) (x_rV (As := [.int 3, .int 2, .int 0]) X (c_X6_lays l g o (mz r (upd y 29 (dueM cn (mZ r)))) 3 2 (by decide) (by decide) 0  _) yf_X6_lays yi_X6_lays wM_X6_29 ⟨Nat.le_of_ble_eq_true rfl, Nat.le_of_ble_eq_true rfl⟩ hP hD (p_all _) 0 rfl rfl hl rfl rfl (Nat.le_of_ble_eq_true rfl) dX6_resets_52 ⟨Nat.zero_le _, Nat.zero_le _⟩) hP hD hS hA (p_all _) (p_back _) (fun H locs hP hD hS => ?_)
      refine lv_iinc (v := (q + 1)) (lv' := [(2, .int (q + 1)), (3, .int 3), (1, .int (dueM cn (mZ r))), (0, .ref (o 0))]) hx hb dX6_resets_55 hl (k := 1) rfl rfl (by decide) rfl (fun ls hl => ?_)
      refine lv_iinc (v := 4) (lv' := [(3, .int 4), (2, .int (q + 1)), (1, .int (dueM cn (mZ r))), (0, .ref (o 0))]) hx hb dX6_resets_58 hl (k := 1) rfl rfl (by decide) rfl (fun ls hl => ?_)
      refine lv_goto (tgt := 17) hx hb dX6_resets_61 (by decide) ?_
      exact L17_4 (upd (upd y 29 (dueM cn (mZ r))) 31 0) (q + 1) (by rw [← ht]; simp only [rlM, if_neg c_3]) ls _ _ hP hD hS (lv_sub hl [0, 1, 2, 3] rfl)
  have L17_2 : ∀ (y : RI) (q : Int32), rlM (dueM cn (mZ r)) 2 22 y q = rlM (dueM cn (mZ r)) 4 8 (mZ r) 0 → ∀ (ls : Array Slot) (H : Heap) (locs : List Loc), va_P g.1 vwCl (MW g o (mz r y)) H → va_D A (MW g o (mz r y)) → va_S A s.heap H locs → lv_has ls 4 [(3, .int 2), (2, .int q), (1, .int (dueM cn (mZ r))), (0, .ref (o 0))] → W p l e (rmD 3) s m args below meth c H locs 0 0 (MQ below (QI g A (rrM cn (mZ r)) (MW g o (mz r (rzM cn (mZ r))))) args s 0 0 A) (F0 m 17 ls []) := by
    intro y q ht ls H locs hP hD hS hl
    refine lv_iload_n hx hb dX6_resets_17 rfl (lv_at hl 0 rfl) ?_
    refine lv_iconst (v := 4) hx hb dX6_resets_18 (by decide) ?_
    refine lv_icmp_ge (tgt := 64) hx hb dX6_resets_19 (by decide) (fun q9 => absurd q9 (show ¬ (4 : Int32) ≤ (2 : Int32) from (by decide))) (fun c_4 => ?_)
    refine lv_aload_n hx hb dX6_resets_22 rfl (lv_at hl 3 rfl) ?_
    refine lv_iload_n hx hb dX6_resets_23 rfl (lv_at hl 0 rfl) ?_
    refine lv_iconst (v := 0) hx hb dX6_resets_24 (by decide) ?_
    refine x_goI (wn := MW g o (mz r y)) (x_rV (As := [.int 2, .int 0]) X (c_X6_of l g o (mz r y) 2 0 (by decide) (by decide)  _) yf_X6_of yi_X6_of wM_X6_56 ⟨Nat.le_of_ble_eq_true rfl, Nat.le_of_ble_eq_true rfl⟩ hP hD (p_all _) 0 rfl rfl hl rfl rfl (Nat.le_of_ble_eq_true rfl) dX6_resets_25 ⟨Nat.zero_le _, Nat.zero_le _⟩) hP hD hS hA (p_all _) (p_back _) (fun H locs hP hD hS => ?_)
    refine lv_iload_n hx hb dX6_resets_28 rfl (lv_at hl 2 rfl) ?_
    refine x_goI (wn := MW g o (mz r y)) (x_rS (As := [.int (y 22), .int (dueM cn (mZ r))]) X (c_X6_distance l g (y 22) (dueM cn (mZ r)) _) yf_X6_distance ys_X6_distance wM_X6_64 ⟨Nat.le_of_ble_eq_true rfl, Nat.le_of_ble_eq_true rfl⟩ hP hD (p_none _) hl rfl rfl (Nat.le_of_ble_eq_true rfl) dX6_resets_29 ⟨Nat.zero_le _, Nat.zero_le _⟩) hP hD hS hA (p_none _) (p_noneB _) (fun H locs hP hD hS => ?_)
    refine lv_aload_n hx hb dX6_resets_32 rfl (lv_at hl 3 rfl) ?_
    refine x_get (v := .ref (o 1)) X 0 0 in_X6 hP rfl rfl (by decide) wF_X6_7 rfl rfl dX6_resets_33 ?_
    refine lv_iconst (v := 2) hx hb dX6_resets_36 (by decide) ?_
    refine x_iald (v := (y 2)) X 1 2 hP rfl rfl (by decide) (Nat.le_of_ble_eq_true rfl) rfl dX6_resets_37 ?_
    refine lv_icmp_le (tgt := 58) hx hb dX6_resets_38 (by decide) (fun (c_5 : (distM (y 22) (dueM cn (mZ r))) ≤ (y 2)) => ?_) (fun (c_5 : ¬ (distM (y 22) (dueM cn (mZ r))) ≤ (y 2)) => ?_)
    · refine lv_iinc (v := 3) (lv' := [(3, .int 3), (2, .int q), (1, .int (dueM cn (mZ r))), (0, .ref (o 0))]) hx hb dX6_resets_58 hl (k := 0) rfl rfl (by decide) rfl (fun ls hl => ?_)
      refine lv_goto (tgt := 17) hx hb dX6_resets_61 (by decide) ?_
      exact L17_3 y q (by rw [← ht]; simp only [rlM, if_pos c_5]) ls _ _ hP hD hS (lv_sub hl [0, 1, 2, 3] rfl)
    · refine lv_aload_n hx hb dX6_resets_41 rfl (lv_at hl 3 rfl) ?_
      refine lv_iload_n hx hb dX6_resets_42 rfl (lv_at hl 0 rfl) ?_
      refine lv_iconst (v := 0) hx hb dX6_resets_43 (by decide) ?_
      refine lv_iload_n hx hb dX6_resets_44 rfl (lv_at hl 2 rfl) ?_
      refine x_goV (wn := MW g o (mz r (upd y 22 (dueM cn (mZ r))))) (x_rV (As := [.int 2, .int 0, .int (dueM cn (mZ r))]) X (c_X6_lays l g o (mz r y) 2 0 (by decide) (by decide) (dueM cn (mZ r))  _) yf_X6_lays yi_X6_lays wM_X6_29 ⟨Nat.le_of_ble_eq_true rfl, Nat.le_of_ble_eq_true rfl⟩ hP hD (p_all _) 0 rfl rfl hl rfl rfl (Nat.le_of_ble_eq_true rfl) dX6_resets_45 ⟨Nat.zero_le _, Nat.zero_le _⟩) hP hD hS hA (p_all _) (p_back _) (fun H locs hP hD hS => ?_)
      refine lv_aload_n hx hb dX6_resets_48 rfl (lv_at hl 3 rfl) ?_
      refine lv_iload_n hx hb dX6_resets_49 rfl (lv_at hl 0 rfl) ?_
      refine lv_iconst (v := 2) hx hb dX6_resets_50 (by decide) ?_
      refine lv_iconst (v := 0) hx hb dX6_resets_51 (by decide) ?_
      refine x_goV (wn := MW g o (mz r (upd (upd y 22 (dueM cn (mZ r))) 24 0))) (x_rV (As := [.int 2, .int 2, .int 0]) X (c_X6_lays l g o (mz r (upd y 22 (dueM cn (mZ r)))) 2 2 (by decide) (by decide) 0  _) yf_X6_lays yi_X6_lays wM_X6_29 ⟨Nat.le_of_ble_eq_true rfl, Nat.le_of_ble_eq_true rfl⟩ hP hD (p_all _) 0 rfl rfl hl rfl rfl (Nat.le_of_ble_eq_true rfl) dX6_resets_52 ⟨Nat.zero_le _, Nat.zero_le _⟩) hP hD hS hA (p_all _) (p_back _) (fun H locs hP hD hS => ?_)
      refine lv_iinc (v := (q + 1)) (lv' := [(2, .int (q + 1)), (3, .int 2), (1, .int (dueM cn (mZ r))), (0, .ref (o 0))]) hx hb dX6_resets_55 hl (k := 1) rfl rfl (by decide) rfl (fun ls hl => ?_)
      refine lv_iinc (v := 3) (lv' := [(3, .int 3), (2, .int (q + 1)), (1, .int (dueM cn (mZ r))), (0, .ref (o 0))]) hx hb dX6_resets_58 hl (k := 1) rfl rfl (by decide) rfl (fun ls hl => ?_)
      refine lv_goto (tgt := 17) hx hb dX6_resets_61 (by decide) ?_
      exact L17_3 (upd (upd y 22 (dueM cn (mZ r))) 24 0) (q + 1) (by rw [← ht]; simp only [rlM, if_neg c_5]) ls _ _ hP hD hS (lv_sub hl [0, 1, 2, 3] rfl)
  have L17_1 : ∀ (y : RI) (q : Int32), rlM (dueM cn (mZ r)) 3 15 y q = rlM (dueM cn (mZ r)) 4 8 (mZ r) 0 → ∀ (ls : Array Slot) (H : Heap) (locs : List Loc), va_P g.1 vwCl (MW g o (mz r y)) H → va_D A (MW g o (mz r y)) → va_S A s.heap H locs → lv_has ls 4 [(3, .int 1), (2, .int q), (1, .int (dueM cn (mZ r))), (0, .ref (o 0))] → W p l e (rmD 3) s m args below meth c H locs 0 0 (MQ below (QI g A (rrM cn (mZ r)) (MW g o (mz r (rzM cn (mZ r))))) args s 0 0 A) (F0 m 17 ls []) := by
    intro y q ht ls H locs hP hD hS hl
    refine lv_iload_n hx hb dX6_resets_17 rfl (lv_at hl 0 rfl) ?_
    refine lv_iconst (v := 4) hx hb dX6_resets_18 (by decide) ?_
    refine lv_icmp_ge (tgt := 64) hx hb dX6_resets_19 (by decide) (fun q9 => absurd q9 (show ¬ (4 : Int32) ≤ (1 : Int32) from (by decide))) (fun c_6 => ?_)
    refine lv_aload_n hx hb dX6_resets_22 rfl (lv_at hl 3 rfl) ?_
    refine lv_iload_n hx hb dX6_resets_23 rfl (lv_at hl 0 rfl) ?_
    refine lv_iconst (v := 0) hx hb dX6_resets_24 (by decide) ?_
    refine x_goI (wn := MW g o (mz r y)) (x_rV (As := [.int 1, .int 0]) X (c_X6_of l g o (mz r y) 1 0 (by decide) (by decide)  _) yf_X6_of yi_X6_of wM_X6_56 ⟨Nat.le_of_ble_eq_true rfl, Nat.le_of_ble_eq_true rfl⟩ hP hD (p_all _) 0 rfl rfl hl rfl rfl (Nat.le_of_ble_eq_true rfl) dX6_resets_25 ⟨Nat.zero_le _, Nat.zero_le _⟩) hP hD hS hA (p_all _) (p_back _) (fun H locs hP hD hS => ?_)
    refine lv_iload_n hx hb dX6_resets_28 rfl (lv_at hl 2 rfl) ?_
    refine x_goI (wn := MW g o (mz r y)) (x_rS (As := [.int (y 15), .int (dueM cn (mZ r))]) X (c_X6_distance l g (y 15) (dueM cn (mZ r)) _) yf_X6_distance ys_X6_distance wM_X6_64 ⟨Nat.le_of_ble_eq_true rfl, Nat.le_of_ble_eq_true rfl⟩ hP hD (p_none _) hl rfl rfl (Nat.le_of_ble_eq_true rfl) dX6_resets_29 ⟨Nat.zero_le _, Nat.zero_le _⟩) hP hD hS hA (p_none _) (p_noneB _) (fun H locs hP hD hS => ?_)
    refine lv_aload_n hx hb dX6_resets_32 rfl (lv_at hl 3 rfl) ?_
    refine x_get (v := .ref (o 1)) X 0 0 in_X6 hP rfl rfl (by decide) wF_X6_7 rfl rfl dX6_resets_33 ?_
    refine lv_iconst (v := 2) hx hb dX6_resets_36 (by decide) ?_
    refine x_iald (v := (y 2)) X 1 2 hP rfl rfl (by decide) (Nat.le_of_ble_eq_true rfl) rfl dX6_resets_37 ?_
    refine lv_icmp_le (tgt := 58) hx hb dX6_resets_38 (by decide) (fun (c_7 : (distM (y 15) (dueM cn (mZ r))) ≤ (y 2)) => ?_) (fun (c_7 : ¬ (distM (y 15) (dueM cn (mZ r))) ≤ (y 2)) => ?_)
    · refine lv_iinc (v := 2) (lv' := [(3, .int 2), (2, .int q), (1, .int (dueM cn (mZ r))), (0, .ref (o 0))]) hx hb dX6_resets_58 hl (k := 0) rfl rfl (by decide) rfl (fun ls hl => ?_)
      refine lv_goto (tgt := 17) hx hb dX6_resets_61 (by decide) ?_
      exact L17_2 y q (by rw [← ht]; simp only [rlM, if_pos c_7]) ls _ _ hP hD hS (lv_sub hl [0, 1, 2, 3] rfl)
    · refine lv_aload_n hx hb dX6_resets_41 rfl (lv_at hl 3 rfl) ?_
      refine lv_iload_n hx hb dX6_resets_42 rfl (lv_at hl 0 rfl) ?_
      refine lv_iconst (v := 0) hx hb dX6_resets_43 (by decide) ?_
      refine lv_iload_n hx hb dX6_resets_44 rfl (lv_at hl 2 rfl) ?_
      refine x_goV (wn := MW g o (mz r (upd y 15 (dueM cn (mZ r))))) (x_rV (As := [.int 1, .int 0, .int (dueM cn (mZ r))]) X (c_X6_lays l g o (mz r y) 1 0 (by decide) (by decide) (dueM cn (mZ r))  _) yf_X6_lays yi_X6_lays wM_X6_29 ⟨Nat.le_of_ble_eq_true rfl, Nat.le_of_ble_eq_true rfl⟩ hP hD (p_all _) 0 rfl rfl hl rfl rfl (Nat.le_of_ble_eq_true rfl) dX6_resets_45 ⟨Nat.zero_le _, Nat.zero_le _⟩) hP hD hS hA (p_all _) (p_back _) (fun H locs hP hD hS => ?_)
      refine lv_aload_n hx hb dX6_resets_48 rfl (lv_at hl 3 rfl) ?_
      refine lv_iload_n hx hb dX6_resets_49 rfl (lv_at hl 0 rfl) ?_
      refine lv_iconst (v := 2) hx hb dX6_resets_50 (by decide) ?_
      refine lv_iconst (v := 0) hx hb dX6_resets_51 (by decide) ?_
      refine x_goV (wn := MW g o (mz r (upd (upd y 15 (dueM cn (mZ r))) 17 0))) (x_rV (As := [.int 1, .int 2, .int 0]) X (c_X6_lays l g o (mz r (upd y 15 (dueM cn (mZ r)))) 1 2 (by decide) (by decide) 0  _) yf_X6_lays yi_X6_lays wM_X6_29 ⟨Nat.le_of_ble_eq_true rfl, Nat.le_of_ble_eq_true rfl⟩ hP hD (p_all _) 0 rfl rfl hl rfl rfl (Nat.le_of_ble_eq_true rfl) dX6_resets_52 ⟨Nat.zero_le _, Nat.zero_le _⟩) hP hD hS hA (p_all _) (p_back _) (fun H locs hP hD hS => ?_)
      refine lv_iinc (v := (q + 1)) (lv' := [(2, .int (q + 1)), (3, .int 1), (1, .int (dueM cn (mZ r))), (0, .ref (o 0))]) hx hb dX6_resets_55 hl (k := 1) rfl rfl (by decide) rfl (fun ls hl => ?_)
      refine lv_iinc (v := 2) (lv' := [(3, .int 2), (2, .int (q + 1)), (1, .int (dueM cn (mZ r))), (0, .ref (o 0))]) hx hb dX6_resets_58 hl (k := 1) rfl rfl (by decide) rfl (fun ls hl => ?_)
      refine lv_goto (tgt := 17) hx hb dX6_resets_61 (by decide) ?_
      exact L17_2 (upd (upd y 15 (dueM cn (mZ r))) 17 0) (q + 1) (by rw [← ht]; simp only [rlM, if_neg c_7]) ls _ _ hP hD hS (lv_sub hl [0, 1, 2, 3] rfl)
  have L17_0 : ∀ (y : RI) (q : Int32), rlM (dueM cn (mZ r)) 4 8 y q = rlM (dueM cn (mZ r)) 4 8 (mZ r) 0 → ∀ (ls : Array Slot) (H : Heap) (locs : List Loc), va_P g.1 vwCl (MW g o (mz r y)) H → va_D A (MW g o (mz r y)) → va_S A s.heap H locs → lv_has ls 4 [(3, .int 0), (2, .int q), (1, .int (dueM cn (mZ r))), (0, .ref (o 0))] → W p l e (rmD 3) s m args below meth c H locs 0 0 (MQ below (QI g A (rrM cn (mZ r)) (MW g o (mz r (rzM cn (mZ r))))) args s 0 0 A) (F0 m 17 ls []) := by
    intro y q ht ls H locs hP hD hS hl
    refine lv_iload_n hx hb dX6_resets_17 rfl (lv_at hl 0 rfl) ?_
    refine lv_iconst (v := 4) hx hb dX6_resets_18 (by decide) ?_
    refine lv_icmp_ge (tgt := 64) hx hb dX6_resets_19 (by decide) (fun q9 => absurd q9 (show ¬ (4 : Int32) ≤ (0 : Int32) from (by decide))) (fun c_8 => ?_)
    refine lv_aload_n hx hb dX6_resets_22 rfl (lv_at hl 3 rfl) ?_
    refine lv_iload_n hx hb dX6_resets_23 rfl (lv_at hl 0 rfl) ?_
    refine lv_iconst (v := 0) hx hb dX6_resets_24 (by decide) ?_
    refine x_goI (wn := MW g o (mz r y)) (x_rV (As := [.int 0, .int 0]) X (c_X6_of l g o (mz r y) 0 0 (by decide) (by decide)  _) yf_X6_of yi_X6_of wM_X6_56 ⟨Nat.le_of_ble_eq_true rfl, Nat.le_of_ble_eq_true rfl⟩ hP hD (p_all _) 0 rfl rfl hl rfl rfl (Nat.le_of_ble_eq_true rfl) dX6_resets_25 ⟨Nat.zero_le _, Nat.zero_le _⟩) hP hD hS hA (p_all _) (p_back _) (fun H locs hP hD hS => ?_)
    refine lv_iload_n hx hb dX6_resets_28 rfl (lv_at hl 2 rfl) ?_
    refine x_goI (wn := MW g o (mz r y)) (x_rS (As := [.int (y 8), .int (dueM cn (mZ r))]) X (c_X6_distance l g (y 8) (dueM cn (mZ r)) _) yf_X6_distance ys_X6_distance wM_X6_64 ⟨Nat.le_of_ble_eq_true rfl, Nat.le_of_ble_eq_true rfl⟩ hP hD (p_none _) hl rfl rfl (Nat.le_of_ble_eq_true rfl) dX6_resets_29 ⟨Nat.zero_le _, Nat.zero_le _⟩) hP hD hS hA (p_none _) (p_noneB _) (fun H locs hP hD hS => ?_)
    refine lv_aload_n hx hb dX6_resets_32 rfl (lv_at hl 3 rfl) ?_
    refine x_get (v := .ref (o 1)) X 0 0 in_X6 hP rfl rfl (by decide) wF_X6_7 rfl rfl dX6_resets_33 ?_
    refine lv_iconst (v := 2) hx hb dX6_resets_36 (by decide) ?_
    refine x_iald (v := (y 2)) X 1 2 hP rfl rfl (by decide) (Nat.le_of_ble_eq_true rfl) rfl dX6_resets_37 ?_
    refine lv_icmp_le (tgt := 58) hx hb dX6_resets_38 (by decide) (fun (c_9 : (distM (y 8) (dueM cn (mZ r))) ≤ (y 2)) => ?_) (fun (c_9 : ¬ (distM (y 8) (dueM cn (mZ r))) ≤ (y 2)) => ?_)
    · refine lv_iinc (v := 1) (lv' := [(3, .int 1), (2, .int q), (1, .int (dueM cn (mZ r))), (0, .ref (o 0))]) hx hb dX6_resets_58 hl (k := 0) rfl rfl (by decide) rfl (fun ls hl => ?_)
      refine lv_goto (tgt := 17) hx hb dX6_resets_61 (by decide) ?_
      exact L17_1 y q (by rw [← ht]; simp only [rlM, if_pos c_9]) ls _ _ hP hD hS (lv_sub hl [0, 1, 2, 3] rfl)
    · refine lv_aload_n hx hb dX6_resets_41 rfl (lv_at hl 3 rfl) ?_
      refine lv_iload_n hx hb dX6_resets_42 rfl (lv_at hl 0 rfl) ?_
      refine lv_iconst (v := 0) hx hb dX6_resets_43 (by decide) ?_
      refine lv_iload_n hx hb dX6_resets_44 rfl (lv_at hl 2 rfl) ?_
      refine x_goV (wn := MW g o (mz r (upd y 8 (dueM cn (mZ r))))) (x_rV (As := [.int 0, .int 0, .int (dueM cn (mZ r))]) X (c_X6_lays l g o (mz r y) 0 0 (by decide) (by decide) (dueM cn (mZ r))  _) yf_X6_lays yi_X6_lays wM_X6_29 ⟨Nat.le_of_ble_eq_true rfl, Nat.le_of_ble_eq_true rfl⟩ hP hD (p_all _) 0 rfl rfl hl rfl rfl (Nat.le_of_ble_eq_true rfl) dX6_resets_45 ⟨Nat.zero_le _, Nat.zero_le _⟩) hP hD hS hA (p_all _) (p_back _) (fun H locs hP hD hS => ?_)
      refine lv_aload_n hx hb dX6_resets_48 rfl (lv_at hl 3 rfl) ?_
      refine lv_iload_n hx hb dX6_resets_49 rfl (lv_at hl 0 rfl) ?_
      refine lv_iconst (v := 2) hx hb dX6_resets_50 (by decide) ?_
      refine lv_iconst (v := 0) hx hb dX6_resets_51 (by decide) ?_
      refine x_goV (wn := MW g o (mz r (upd (upd y 8 (dueM cn (mZ r))) 10 0))) (x_rV (As := [.int 0, .int 2, .int 0]) X (c_X6_lays l g o (mz r (upd y 8 (dueM cn (mZ r)))) 0 2 (by decide) (by decide) 0  _) yf_X6_lays yi_X6_lays wM_X6_29 ⟨Nat.le_of_ble_eq_true rfl, Nat.le_of_ble_eq_true rfl⟩ hP hD (p_all _) 0 rfl rfl hl rfl rfl (Nat.le_of_ble_eq_true rfl) dX6_resets_52 ⟨Nat.zero_le _, Nat.zero_le _⟩) hP hD hS hA (p_all _) (p_back _) (fun H locs hP hD hS => ?_)
      refine lv_iinc (v := (q + 1)) (lv' := [(2, .int (q + 1)), (3, .int 0), (1, .int (dueM cn (mZ r))), (0, .ref (o 0))]) hx hb dX6_resets_55 hl (k := 1) rfl rfl (by decide) rfl (fun ls hl => ?_)
      refine lv_iinc (v := 1) (lv' := [(3, .int 1), (2, .int (q + 1)), (1, .int (dueM cn (mZ r))), (0, .ref (o 0))]) hx hb dX6_resets_58 hl (k := 1) rfl rfl (by decide) rfl (fun ls hl => ?_)
      refine lv_goto (tgt := 17) hx hb dX6_resets_61 (by decide) ?_
      exact L17_1 (upd (upd y 8 (dueM cn (mZ r))) 10 0) (q + 1) (by rw [← ht]; simp only [rlM, if_neg c_9]) ls _ _ hP hD hS (lv_sub hl [0, 1, 2, 3] rfl)
  exact L17_0 (mZ r) 0 rfl ls _ _ hP hD hS (lv_sub hl [0, 1, 2, 3] rfl)

def mi1 (z : RI) : RI × Int32 := turnM 8 (upd z 0 (z 0 + 1))
def mi2 (z : RI) : RI × Int32 := turnM 15 (mi1 z).1
def mi3 (z : RI) : RI × Int32 := turnM 22 (mi2 z).1
def mi4M (z : RI) : RI × Int32 := turnM 29 (mi3 z).1
def shSM (y : RI) : Int32 := ((((y 4 + y 1) + y 11) + y 18) + y 25) + y 32
def sh5 (y : RI) : RI := upd (upd (upd (upd (upd y 4 (y 4 + y 1)) 4 ((y 4 + y 1) + y 11)) 4 (((y 4 + y 1) + y 11) + y 18)) 4 ((((y 4 + y 1) + y 11) + y 18) + y 25)) 4 (((((y 4 + y 1) + y 11) + y 18) + y 25) + y 32)
def bkM (d : Int32) : Int32 := jrem ((d + 720) - 1) 720
def shM (y : RI) : RI := if shSM y < y 3 then sh5 y else upd (upd (upd (upd (upd (upd (sh5 y) 4 0) 5 (y 5 + 1)) 8 (bkM (y 8))) 15 (bkM (y 15))) 22 (bkM (y 22))) 29 (bkM (y 29))
def miY (z : RI) : RI := shM (mi4M z).1
def minM (cn : Nat) (z : RI) : RI := if jrem (miY z 0) 1440 = 720 then (if miY z 7 ≤ 0 then miY z else rzM cn (miY z)) else miY z
def minMR (z : RI) : Int32 := (((0 + (mi1 z).2) + (mi2 z).2) + (mi3 z).2) + (mi4M z).2
theorem turnM_7 (o : Nat) (z : RI) (h : 8 ≤ o) : (turnM o z).1 7 = z 7 := by
  unfold turnM
  split
  · show upd _ _ _ 7 = _
    unfold upd; rw [if_neg (by omega), if_neg (by omega), if_neg (by omega)]
  · split
    · split
      · show upd _ _ _ 7 = _
        unfold upd; rw [if_neg (by omega), if_neg (by omega)]
      · show upd _ _ _ 7 = _
        unfold upd; rw [if_neg (by omega), if_neg (by omega), if_neg (by omega)]
    · show upd _ _ _ 7 = _
      unfold upd; rw [if_neg (by omega), if_neg (by omega)]
theorem mi4M_7 (z : RI) : (mi4M z).1 7 = z 7 := by
  unfold mi4M mi3 mi2 mi1
  rw [turnM_7 _ _ (by decide), turnM_7 _ _ (by decide), turnM_7 _ _ (by decide), turnM_7 _ _ (by decide)]
  rfl
theorem miY_7 (z : RI) : miY z 7 = z 7 := by
  have h := mi4M_7 z
  unfold miY shM
  split
  · exact h
  · exact h
theorem rlM_7 (due : Int32) (n : Nat) : ∀ (o : Nat) (z : RI) (q : Int32), 8 ≤ o → (rlM due n o z q).1 7 = z 7 := by
  induction n with
  | zero => intro o z q _; rfl
  | succ n ih =>
    intro o z q ho
    by_cases h : distM (z o) due ≤ z 2
    · simp only [rlM, if_pos h]; exact ih _ _ _ (by omega)
    · simp only [rlM, if_neg h]
      rw [ih _ _ _ (by omega)]
      simp only [upd]
      rw [if_neg (by omega), if_neg (by omega)]
theorem rzM_7 (cn : Nat) (z : RI) : rzM cn z 7 = z 7 := by
  show (rlM _ 4 8 z 0).1 7 = z 7
  exact rlM_7 _ _ _ _ _ (Nat.le_refl 8)
theorem minM_7 (cn : Nat) (z : RI) : minM cn z 7 = z 7 := by
  unfold minM
  split
  · split
    · exact miY_7 z
    · rw [rzM_7]; exact miY_7 z
  · exact miY_7 z
set_option maxHeartbeats 4000000 in
set_option maxRecDepth 100000 in
theorem c_X6_minute (l : Launch) (g : wG) (o : Nat → Nat) (r : MS) (cn : Nat) (hc : cn ≤ 6) (hz : mZ r 7 = nI cn) : CtI l g 4 yX6_minute cX6_minute 3 (some .int) [.ref (o 0)] (MW g o r) (minMR (mZ r)) (MW g o (mz r (minM cn (mZ r)))) := by
  intro sz
  refine x_enter (Qc := fun A => QI g A (minMR (mZ r)) (MW g o (mz r (minM cn (mZ r))))) (by decide) (Nat.le_of_ble_eq_true rfl) ?_
  intro p e s m args below meth c X hr hlocks A hA hP hD hS ls hl
  obtain ⟨⟨hx, hb, hml, hown, hts⟩, hK, hN⟩ := id X
  have hl : lv_has ls 3 [(0, .ref (o 0))] := hl
  refine lv_aload_n hx hb dX6_minute_0 rfl (lv_at hl 0 rfl) ?_
  refine x_get (v := .ref (o 1)) X 0 0 in_X6 hP rfl rfl (by decide) wF_X6_7 rfl rfl dX6_minute_1 ?_
  refine lv_iconst (v := 0) hx hb dX6_minute_4 (by decide) ?_
  refine lv_dup2_11 hx hb dX6_minute_5 rfl rfl ?_
  refine x_iald (v := ((mZ r) 0)) X 1 0 hP rfl rfl (by decide) (Nat.le_of_ble_eq_true rfl) rfl dX6_minute_6 ?_
  refine lv_iconst (v := 1) hx hb dX6_minute_7 (by decide) ?_
  refine lv_iadd hx hb dX6_minute_8 ?_
  refine x_iast (ws2 := MW g o (mz r (upd (mZ r) 0 (((mZ r) 0) + 1)))) X 1 0 hP hD hS rfl rfl (by decide) (Nat.le_of_ble_eq_true rfl) rfl dX6_minute_9 (fun H locs hP hD hS => ?_)
  refine lv_iconst (v := 0) hx hb dX6_minute_10 (by decide) ?_
  refine lv_istore_n (lv' := [(1, .int 0), (0, .ref (o 0))]) hx hb dX6_minute_11 rfl hl (by decide) rfl (fun ls hl => ?_)
  refine lv_iconst (v := 0) hx hb dX6_minute_12 (by decide) ?_
  refine lv_istore_n (lv' := [(2, .int 0), (1, .int 0), (0, .ref (o 0))]) hx hb dX6_minute_13 rfl hl (by decide) rfl (fun ls hl => ?_)
  refine lv_iload_n hx hb dX6_minute_14 rfl (lv_at hl 0 rfl) ?_
  refine lv_iconst (v := 4) hx hb dX6_minute_15 (by decide) ?_
  refine lv_icmp_ge (tgt := 33) hx hb dX6_minute_16 (by decide) (fun q9 => absurd q9 (show ¬ (4 : Int32) ≤ (0 : Int32) from (by decide))) (fun c_1 => ?_)
  refine lv_iload_n hx hb dX6_minute_19 rfl (lv_at hl 1 rfl) ?_
  refine lv_aload_n hx hb dX6_minute_20 rfl (lv_at hl 2 rfl) ?_
  refine lv_iload_n hx hb dX6_minute_21 rfl (lv_at hl 0 rfl) ?_
  refine x_goI (wn := MW g o (mz r ((turnM 8 (upd (mZ r) 0 (((mZ r) 0) + 1))).1))) (x_rV (As := [.int 0]) X (c_X6_turns_0 l g o (mz r (upd (mZ r) 0 (((mZ r) 0) + 1)))   _) yf_X6_turns yi_X6_turns wM_X6_76 ⟨Nat.le_of_ble_eq_true rfl, Nat.le_of_ble_eq_true rfl⟩ hP hD (p_all _) 0 rfl rfl hl rfl rfl (Nat.le_of_ble_eq_true rfl) dX6_minute_22 ⟨Nat.zero_le _, Nat.zero_le _⟩) hP hD hS hA (p_all _) (p_back _) (fun H locs hP hD hS => ?_)
  obtain ⟨y_1, ey_1⟩ : ∃ y : Nat → Int32, y = ((turnM 8 (upd (mZ r) 0 (((mZ r) 0) + 1))).1) := ⟨_, rfl⟩
  have hP : va_P g.1 vwCl (MW g o (mz r y_1)) H := by rw [ey_1]; exact hP
  have hD : va_D A (MW g o (mz r y_1)) := by rw [ey_1]; exact hD
  refine lv_iadd hx hb dX6_minute_25 ?_
  refine lv_istore_n (lv' := [(1, .int (0 + ((turnM 8 (upd (mZ r) 0 (((mZ r) 0) + 1))).2))), (2, .int 0), (0, .ref (o 0))]) hx hb dX6_minute_26 rfl hl (by decide) rfl (fun ls hl => ?_)
  refine lv_iinc (v := 1) (lv' := [(2, .int 1), (1, .int (0 + ((turnM 8 (upd (mZ r) 0 (((mZ r) 0) + 1))).2))), (0, .ref (o 0))]) hx hb dX6_minute_27 hl (k := 1) rfl rfl (by decide) rfl (fun ls hl => ?_)
  refine lv_goto (tgt := 14) hx hb dX6_minute_30 (by decide) ?_
  refine lv_iload_n hx hb dX6_minute_14 rfl (lv_at hl 0 rfl) ?_
  refine lv_iconst (v := 4) hx hb dX6_minute_15 (by decide) ?_
  refine lv_icmp_ge (tgt := 33) hx hb dX6_minute_16 (by decide) (fun q9 => absurd q9 (show ¬ (4 : Int32) ≤ (1 : Int32) from (by decide))) (fun c_2 => ?_)
  refine lv_iload_n hx hb dX6_minute_19 rfl (lv_at hl 1 rfl) ?_
  refine lv_aload_n hx hb dX6_minute_20 rfl (lv_at hl 2 rfl) ?_
  refine lv_iload_n hx hb dX6_minute_21 rfl (lv_at hl 0 rfl) ?_
  refine x_goI (wn := MW g o (mz r ((turnM 15 y_1).1))) (x_rV (As := [.int 1]) X (c_X6_turns_1 l g o (mz r y_1)   _) yf_X6_turns yi_X6_turns wM_X6_76 ⟨Nat.le_of_ble_eq_true rfl, Nat.le_of_ble_eq_true rfl⟩ hP hD (p_all _) 0 rfl rfl hl rfl rfl (Nat.le_of_ble_eq_true rfl) dX6_minute_22 ⟨Nat.zero_le _, Nat.zero_le _⟩) hP hD hS hA (p_all _) (p_back _) (fun H locs hP hD hS => ?_)
  obtain ⟨y_2, ey_2⟩ : ∃ y : Nat → Int32, y = ((turnM 15 y_1).1) := ⟨_, rfl⟩
  have hP : va_P g.1 vwCl (MW g o (mz r y_2)) H := by rw [ey_2]; exact hP
  have hD : va_D A (MW g o (mz r y_2)) := by rw [ey_2]; exact hD
  refine lv_iadd hx hb dX6_minute_25 ?_
  refine lv_istore_n (lv' := [(1, .int ((0 + ((turnM 8 (upd (mZ r) 0 (((mZ r) 0) + 1))).2)) + ((turnM 15 y_1).2))), (2, .int 1), (0, .ref (o 0))]) hx hb dX6_minute_26 rfl hl (by decide) rfl (fun ls hl => ?_)
  refine lv_iinc (v := 2) (lv' := [(2, .int 2), (1, .int ((0 + ((turnM 8 (upd (mZ r) 0 (((mZ r) 0) + 1))).2)) + ((turnM 15 y_1).2))), (0, .ref (o 0))]) hx hb dX6_minute_27 hl (k := 1) rfl rfl (by decide) rfl (fun ls hl => ?_)
  refine lv_goto (tgt := 14) hx hb dX6_minute_30 (by decide) ?_
  refine lv_iload_n hx hb dX6_minute_14 rfl (lv_at hl 0 rfl) ?_
  refine lv_iconst (v := 4) hx hb dX6_minute_15 (by decide) ?_
  refine lv_icmp_ge (tgt := 33) hx hb dX6_minute_16 (by decide) (fun q9 => absurd q9 (show ¬ (4 : Int32) ≤ (2 : Int32) from (by decide))) (fun c_3 => ?_)
  refine lv_iload_n hx hb dX6_minute_19 rfl (lv_at hl 1 rfl) ?_
  refine lv_aload_n hx hb dX6_minute_20 rfl (lv_at hl 2 rfl) ?_
  refine lv_iload_n hx hb dX6_minute_21 rfl (lv_at hl 0 rfl) ?_
  refine x_goI (wn := MW g o (mz r ((turnM 22 y_2).1))) (x_rV (As := [.int 2]) X (c_X6_turns_2 l g o (mz r y_2)   _) yf_X6_turns yi_X6_turns wM_X6_76 ⟨Nat.le_of_ble_eq_true rfl, Nat.le_of_ble_eq_true rfl⟩ hP hD (p_all _) 0 rfl rfl hl rfl rfl (Nat.le_of_ble_eq_true rfl) dX6_minute_22 ⟨Nat.zero_le _, Nat.zero_le _⟩) hP hD hS hA (p_all _) (p_back _) (fun H locs hP hD hS => ?_)
  obtain ⟨y_3, ey_3⟩ : ∃ y : Nat → Int32, y = ((turnM 22 y_2).1) := ⟨_, rfl⟩
  have hP : va_P g.1 vwCl (MW g o (mz r y_3)) H := by rw [ey_3]; exact hP
  have hD : va_D A (MW g o (mz r y_3)) := by rw [ey_3]; exact hD
  refine lv_iadd hx hb dX6_minute_25 ?_
  refine lv_istore_n (lv' := [(1, .int (((0 + ((turnM 8 (upd (mZ r) 0 (((mZ r) 0) + 1))).2)) + ((turnM 15 y_1).2)) + ((turnM 22 y_2).2))), (2, .int 2), (0, .ref (o 0))]) hx hb dX6_minute_26 rfl hl (by decide) rfl (fun ls hl => ?_)
  refine lv_iinc (v := 3) (lv' := [(2, .int 3), (1, .int (((0 + ((turnM 8 (upd (mZ r) 0 (((mZ r) 0) + 1))).2)) + ((turnM 15 y_1).2)) + ((turnM 22 y_2).2))), (0, .ref (o 0))]) hx hb dX6_minute_27 hl (k := 1) rfl rfl (by decide) rfl (fun ls hl => ?_)
  refine lv_goto (tgt := 14) hx hb dX6_minute_30 (by decide) ?_
  refine lv_iload_n hx hb dX6_minute_14 rfl (lv_at hl 0 rfl) ?_
  refine lv_iconst (v := 4) hx hb dX6_minute_15 (by decide) ?_
  refine lv_icmp_ge (tgt := 33) hx hb dX6_minute_16 (by decide) (fun q9 => absurd q9 (show ¬ (4 : Int32) ≤ (3 : Int32) from (by decide))) (fun c_4 => ?_)
  refine lv_iload_n hx hb dX6_minute_19 rfl (lv_at hl 1 rfl) ?_
  refine lv_aload_n hx hb dX6_minute_20 rfl (lv_at hl 2 rfl) ?_
  refine lv_iload_n hx hb dX6_minute_21 rfl (lv_at hl 0 rfl) ?_
  refine x_goI (wn := MW g o (mz r ((turnM 29 y_3).1))) (x_rV (As := [.int 3]) X (c_X6_turns_3 l g o (mz r y_3)   _) yf_X6_turns yi_X6_turns wM_X6_76 ⟨Nat.le_of_ble_eq_true rfl, Nat.le_of_ble_eq_true rfl⟩ hP hD (p_all _) 0 rfl rfl hl rfl rfl (Nat.le_of_ble_eq_true rfl) dX6_minute_22 ⟨Nat.zero_le _, Nat.zero_le _⟩) hP hD hS hA (p_all _) (p_back _) (fun H locs hP hD hS => ?_)
  obtain ⟨y_4, ey_4⟩ : ∃ y : Nat → Int32, y = ((turnM 29 y_3).1) := ⟨_, rfl⟩
  have hP : va_P g.1 vwCl (MW g o (mz r y_4)) H := by rw [ey_4]; exact hP
  have hD : va_D A (MW g o (mz r y_4)) := by rw [ey_4]; exact hD
  refine lv_iadd hx hb dX6_minute_25 ?_
  refine lv_istore_n (lv' := [(1, .int ((((0 + ((turnM 8 (upd (mZ r) 0 (((mZ r) 0) + 1))).2)) + ((turnM 15 y_1).2)) + ((turnM 22 y_2).2)) + ((turnM 29 y_3).2))), (2, .int 3), (0, .ref (o 0))]) hx hb dX6_minute_26 rfl hl (by decide) rfl (fun ls hl => ?_)
  refine lv_iinc (v := 4) (lv' := [(2, .int 4), (1, .int ((((0 + ((turnM 8 (upd (mZ r) 0 (((mZ r) 0) + 1))).2)) + ((turnM 15 y_1).2)) + ((turnM 22 y_2).2)) + ((turnM 29 y_3).2))), (0, .ref (o 0))]) hx hb dX6_minute_27 hl (k := 1) rfl rfl (by decide) rfl (fun ls hl => ?_)
  refine lv_goto (tgt := 14) hx hb dX6_minute_30 (by decide) ?_
  refine lv_iload_n hx hb dX6_minute_14 rfl (lv_at hl 0 rfl) ?_
  refine lv_iconst (v := 4) hx hb dX6_minute_15 (by decide) ?_
  refine lv_icmp_ge (tgt := 33) hx hb dX6_minute_16 (by decide) (fun c_5 => ?_) (fun q9 => absurd (show (4 : Int32) ≤ (4 : Int32) from (by decide)) (show ¬ ((4 : Int32) ≤ (4 : Int32)) from q9))
  refine lv_aload_n hx hb dX6_minute_33 rfl (lv_at hl 2 rfl) ?_
  refine x_get (v := .ref (o 1)) X 0 0 in_X6 hP rfl rfl (by decide) wF_X6_7 rfl rfl dX6_minute_34 ?_
  refine lv_iconst (v := 4) hx hb dX6_minute_37 (by decide) ?_
  refine lv_dup2_11 hx hb dX6_minute_38 rfl rfl ?_
  refine x_iald (v := (y_4 4)) X 1 4 hP rfl rfl (by decide) (Nat.le_of_ble_eq_true rfl) rfl dX6_minute_39 ?_
  refine lv_aload_n hx hb dX6_minute_40 rfl (lv_at hl 2 rfl) ?_
  refine x_get (v := .ref (o 1)) X 0 0 in_X6 hP rfl rfl (by decide) wF_X6_7 rfl rfl dX6_minute_41 ?_
  refine lv_iconst (v := 1) hx hb dX6_minute_44 (by decide) ?_
  refine x_iald (v := (y_4 1)) X 1 1 hP rfl rfl (by decide) (Nat.le_of_ble_eq_true rfl) rfl dX6_minute_45 ?_
  refine lv_iadd hx hb dX6_minute_46 ?_
  refine x_iast (ws2 := MW g o (mz r (upd y_4 4 ((y_4 4) + (y_4 1))))) X 1 4 hP hD hS rfl rfl (by decide) (Nat.le_of_ble_eq_true rfl) rfl dX6_minute_47 (fun H locs hP hD hS => ?_)
  refine lv_iconst (v := 0) hx hb dX6_minute_48 (by decide) ?_
  refine lv_istore_n (lv' := [(2, .int 0), (1, .int ((((0 + ((turnM 8 (upd (mZ r) 0 (((mZ r) 0) + 1))).2)) + ((turnM 15 y_1).2)) + ((turnM 22 y_2).2)) + ((turnM 29 y_3).2))), (0, .ref (o 0))]) hx hb dX6_minute_49 rfl hl (by decide) rfl (fun ls hl => ?_)
  refine lv_iload_n hx hb dX6_minute_50 rfl (lv_at hl 0 rfl) ?_
  refine lv_iconst (v := 4) hx hb dX6_minute_51 (by decide) ?_
  refine lv_icmp_ge (tgt := 76) hx hb dX6_minute_52 (by decide) (fun q9 => absurd q9 (show ¬ (4 : Int32) ≤ (0 : Int32) from (by decide))) (fun c_6 => ?_)
  refine lv_aload_n hx hb dX6_minute_55 rfl (lv_at hl 2 rfl) ?_
  refine x_get (v := .ref (o 1)) X 0 0 in_X6 hP rfl rfl (by decide) wF_X6_7 rfl rfl dX6_minute_56 ?_
  refine lv_iconst (v := 4) hx hb dX6_minute_59 (by decide) ?_
  refine lv_dup2_11 hx hb dX6_minute_60 rfl rfl ?_
  refine x_iald (v := ((y_4 4) + (y_4 1))) X 1 4 hP rfl rfl (by decide) (Nat.le_of_ble_eq_true rfl) rfl dX6_minute_61 ?_
  refine lv_aload_n hx hb dX6_minute_62 rfl (lv_at hl 2 rfl) ?_
  refine lv_iload_n hx hb dX6_minute_63 rfl (lv_at hl 0 rfl) ?_
  refine lv_iconst (v := 3) hx hb dX6_minute_64 (by decide) ?_
  refine x_goI (wn := MW g o (mz r (upd y_4 4 ((y_4 4) + (y_4 1))))) (x_rV (As := [.int 0, .int 3]) X (c_X6_of l g o (mz r (upd y_4 4 ((y_4 4) + (y_4 1)))) 0 3 (by decide) (by decide)  _) yf_X6_of yi_X6_of wM_X6_56 ⟨Nat.le_of_ble_eq_true rfl, Nat.le_of_ble_eq_true rfl⟩ hP hD (p_all _) 0 rfl rfl hl rfl rfl (Nat.le_of_ble_eq_true rfl) dX6_minute_65 ⟨Nat.zero_le _, Nat.zero_le _⟩) hP hD hS hA (p_all _) (p_back _) (fun H locs hP hD hS => ?_)
  refine lv_iadd hx hb dX6_minute_68 ?_
  refine x_iast (ws2 := MW g o (mz r (upd (upd y_4 4 ((y_4 4) + (y_4 1))) 4 (((y_4 4) + (y_4 1)) + (y_4 11))))) X 1 4 hP hD hS rfl rfl (by decide) (Nat.le_of_ble_eq_true rfl) rfl dX6_minute_69 (fun H locs hP hD hS => ?_)
  refine lv_iinc (v := 1) (lv' := [(2, .int 1), (1, .int ((((0 + ((turnM 8 (upd (mZ r) 0 (((mZ r) 0) + 1))).2)) + ((turnM 15 y_1).2)) + ((turnM 22 y_2).2)) + ((turnM 29 y_3).2))), (0, .ref (o 0))]) hx hb dX6_minute_70 hl (k := 0) rfl rfl (by decide) rfl (fun ls hl => ?_)
  refine lv_goto (tgt := 50) hx hb dX6_minute_73 (by decide) ?_
  refine lv_iload_n hx hb dX6_minute_50 rfl (lv_at hl 0 rfl) ?_
  refine lv_iconst (v := 4) hx hb dX6_minute_51 (by decide) ?_
  refine lv_icmp_ge (tgt := 76) hx hb dX6_minute_52 (by decide) (fun q9 => absurd q9 (show ¬ (4 : Int32) ≤ (1 : Int32) from (by decide))) (fun c_7 => ?_)
  refine lv_aload_n hx hb dX6_minute_55 rfl (lv_at hl 2 rfl) ?_
  refine x_get (v := .ref (o 1)) X 0 0 in_X6 hP rfl rfl (by decide) wF_X6_7 rfl rfl dX6_minute_56 ?_
  refine lv_iconst (v := 4) hx hb dX6_minute_59 (by decide) ?_
  refine lv_dup2_11 hx hb dX6_minute_60 rfl rfl ?_
  refine x_iald (v := (((y_4 4) + (y_4 1)) + (y_4 11))) X 1 4 hP rfl rfl (by decide) (Nat.le_of_ble_eq_true rfl) rfl dX6_minute_61 ?_
  refine lv_aload_n hx hb dX6_minute_62 rfl (lv_at hl 2 rfl) ?_
  refine lv_iload_n hx hb dX6_minute_63 rfl (lv_at hl 0 rfl) ?_
  refine lv_iconst (v := 3) hx hb dX6_minute_64 (by decide) ?_
  refine x_goI (wn := MW g o (mz r (upd (upd y_4 4 ((y_4 4) + (y_4 1))) 4 (((y_4 4) + (y_4 1)) + (y_4 11))))) (x_rV (As := [.int 1, .int 3]) X (c_X6_of l g o (mz r (upd (upd y_4 4 ((y_4 4) + (y_4 1))) 4 (((y_4 4) + (y_4 1)) + (y_4 11)))) 1 3 (by decide) (by decide)  _) yf_X6_of yi_X6_of wM_X6_56 ⟨Nat.le_of_ble_eq_true rfl, Nat.le_of_ble_eq_true rfl⟩ hP hD (p_all _) 0 rfl rfl hl rfl rfl (Nat.le_of_ble_eq_true rfl) dX6_minute_65 ⟨Nat.zero_le _, Nat.zero_le _⟩) hP hD hS hA (p_all _) (p_back _) (fun H locs hP hD hS => ?_)
  refine lv_iadd hx hb dX6_minute_68 ?_
  refine x_iast (ws2 := MW g o (mz r (upd (upd (upd y_4 4 ((y_4 4) + (y_4 1))) 4 (((y_4 4) + (y_4 1)) + (y_4 11))) 4 ((((y_4 4) + (y_4 1)) + (y_4 11)) + (y_4 18))))) X 1 4 hP hD hS rfl rfl (by decide) (Nat.le_of_ble_eq_true rfl) rfl dX6_minute_69 (fun H locs hP hD hS => ?_)
  refine lv_iinc (v := 2) (lv' := [(2, .int 2), (1, .int ((((0 + ((turnM 8 (upd (mZ r) 0 (((mZ r) 0) + 1))).2)) + ((turnM 15 y_1).2)) + ((turnM 22 y_2).2)) + ((turnM 29 y_3).2))), (0, .ref (o 0))]) hx hb dX6_minute_70 hl (k := 0) rfl rfl (by decide) rfl (fun ls hl => ?_)
  refine lv_goto (tgt := 50) hx hb dX6_minute_73 (by decide) ?_
  refine lv_iload_n hx hb dX6_minute_50 rfl (lv_at hl 0 rfl) ?_
  refine lv_iconst (v := 4) hx hb dX6_minute_51 (by decide) ?_
  refine lv_icmp_ge (tgt := 76) hx hb dX6_minute_52 (by decide) (fun q9 => absurd q9 (show ¬ (4 : Int32) ≤ (2 : Int32) from (by decide))) (fun c_8 => ?_)
  refine lv_aload_n hx hb dX6_minute_55 rfl (lv_at hl 2 rfl) ?_
  refine x_get (v := .ref (o 1)) X 0 0 in_X6 hP rfl rfl (by decide) wF_X6_7 rfl rfl dX6_minute_56 ?_
  refine lv_iconst (v := 4) hx hb dX6_minute_59 (by decide) ?_
  refine lv_dup2_11 hx hb dX6_minute_60 rfl rfl ?_
  refine x_iald (v := ((((y_4 4) + (y_4 1)) + (y_4 11)) + (y_4 18))) X 1 4 hP rfl rfl (by decide) (Nat.le_of_ble_eq_true rfl) rfl dX6_minute_61 ?_
  refine lv_aload_n hx hb dX6_minute_62 rfl (lv_at hl 2 rfl) ?_
  refine lv_iload_n hx hb dX6_minute_63 rfl (lv_at hl 0 rfl) ?_
  refine lv_iconst (v := 3) hx hb dX6_minute_64 (by decide) ?_
  refine x_goI (wn := MW g o (mz r (upd (upd (upd y_4 4 ((y_4 4) + (y_4 1))) 4 (((y_4 4) + (y_4 1)) + (y_4 11))) 4 ((((y_4 4) + (y_4 1)) + (y_4 11)) + (y_4 18))))) (x_rV (As := [.int 2, .int 3]) X (c_X6_of l g o (mz r (upd (upd (upd y_4 4 ((y_4 4) + (y_4 1))) 4 (((y_4 4) + (y_4 1)) + (y_4 11))) 4 ((((y_4 4) + (y_4 1)) + (y_4 11)) + (y_4 18)))) 2 3 (by decide) (by decide)  _) yf_X6_of yi_X6_of wM_X6_56 ⟨Nat.le_of_ble_eq_true rfl, Nat.le_of_ble_eq_true rfl⟩ hP hD (p_all _) 0 rfl rfl hl rfl rfl (Nat.le_of_ble_eq_true rfl) dX6_minute_65 ⟨Nat.zero_le _, Nat.zero_le _⟩) hP hD hS hA (p_all _) (p_back _) (fun H locs hP hD hS => ?_)
  refine lv_iadd hx hb dX6_minute_68 ?_
  refine x_iast (ws2 := MW g o (mz r (upd (upd (upd (upd y_4 4 ((y_4 4) + (y_4 1))) 4 (((y_4 4) + (y_4 1)) + (y_4 11))) 4 ((((y_4 4) + (y_4 1)) + (y_4 11)) + (y_4 18))) 4 (((((y_4 4) + (y_4 1)) + (y_4 11)) + (y_4 18)) + (y_4 25))))) X 1 4 hP hD hS rfl rfl (by decide) (Nat.le_of_ble_eq_true rfl) rfl dX6_minute_69 (fun H locs hP hD hS => ?_)
  refine lv_iinc (v := 3) (lv' := [(2, .int 3), (1, .int ((((0 + ((turnM 8 (upd (mZ r) 0 (((mZ r) 0) + 1))).2)) + ((turnM 15 y_1).2)) + ((turnM 22 y_2).2)) + ((turnM 29 y_3).2))), (0, .ref (o 0))]) hx hb dX6_minute_70 hl (k := 0) rfl rfl (by decide) rfl (fun ls hl => ?_)
  refine lv_goto (tgt := 50) hx hb dX6_minute_73 (by decide) ?_
  refine lv_iload_n hx hb dX6_minute_50 rfl (lv_at hl 0 rfl) ?_
  refine lv_iconst (v := 4) hx hb dX6_minute_51 (by decide) ?_
  refine lv_icmp_ge (tgt := 76) hx hb dX6_minute_52 (by decide) (fun q9 => absurd q9 (show ¬ (4 : Int32) ≤ (3 : Int32) from (by decide))) (fun c_9 => ?_)
  refine lv_aload_n hx hb dX6_minute_55 rfl (lv_at hl 2 rfl) ?_
  refine x_get (v := .ref (o 1)) X 0 0 in_X6 hP rfl rfl (by decide) wF_X6_7 rfl rfl dX6_minute_56 ?_
  refine lv_iconst (v := 4) hx hb dX6_minute_59 (by decide) ?_
  refine lv_dup2_11 hx hb dX6_minute_60 rfl rfl ?_
  refine x_iald (v := (((((y_4 4) + (y_4 1)) + (y_4 11)) + (y_4 18)) + (y_4 25))) X 1 4 hP rfl rfl (by decide) (Nat.le_of_ble_eq_true rfl) rfl dX6_minute_61 ?_
  refine lv_aload_n hx hb dX6_minute_62 rfl (lv_at hl 2 rfl) ?_
  refine lv_iload_n hx hb dX6_minute_63 rfl (lv_at hl 0 rfl) ?_
  refine lv_iconst (v := 3) hx hb dX6_minute_64 (by decide) ?_
  refine x_goI (wn := MW g o (mz r (upd (upd (upd (upd y_4 4 ((y_4 4) + (y_4 1))) 4 (((y_4 4) + (y_4 1)) + (y_4 11))) 4 ((((y_4 4) + (y_4 1)) + (y_4 11)) + (y_4 18))) 4 (((((y_4 4) + (y_4 1)) + (y_4 11)) + (y_4 18)) + (y_4 25))))) (x_rV (As := [.int 3, .int 3]) X (c_X6_of l g o (mz r (upd (upd (upd (upd y_4 4 ((y_4 4) + (y_4 1))) 4 (((y_4 4) + (y_4 1)) + (y_4 11))) 4 ((((y_4 4) + (y_4 1)) + (y_4 11)) + (y_4 18))) 4 (((((y_4 4) + (y_4 1)) + (y_4 11)) + (y_4 18)) + (y_4 25)))) 3 3 (by decide) (by decide)  _) yf_X6_of yi_X6_of wM_X6_56 ⟨Nat.le_of_ble_eq_true rfl, Nat.le_of_ble_eq_true rfl⟩ hP hD (p_all _) 0 rfl rfl hl rfl rfl (Nat.le_of_ble_eq_true rfl) dX6_minute_65 ⟨Nat.zero_le _, Nat.zero_le _⟩) hP hD hS hA (p_all _) (p_back _) (fun H locs hP hD hS => ?_)
  refine lv_iadd hx hb dX6_minute_68 ?_
  refine x_iast (ws2 := MW g o (mz r (upd (upd (upd (upd (upd y_4 4 ((y_4 4) + (y_4 1))) 4 (((y_4 4) + (y_4 1)) + (y_4 11))) 4 ((((y_4 4) + (y_4 1)) + (y_4 11)) + (y_4 18))) 4 (((((y_4 4) + (y_4 1)) + (y_4 11)) + (y_4 18)) + (y_4 25))) 4 ((((((y_4 4) + (y_4 1)) + (y_4 11)) + (y_4 18)) + (y_4 25)) + (y_4 32))))) X 1 4 hP hD hS rfl rfl (by decide) (Nat.le_of_ble_eq_true rfl) rfl dX6_minute_69 (fun H locs hP hD hS => ?_)
  refine lv_iinc (v := 4) (lv' := [(2, .int 4), (1, .int ((((0 + ((turnM 8 (upd (mZ r) 0 (((mZ r) 0) + 1))).2)) + ((turnM 15 y_1).2)) + ((turnM 22 y_2).2)) + ((turnM 29 y_3).2))), (0, .ref (o 0))]) hx hb dX6_minute_70 hl (k := 0) rfl rfl (by decide) rfl (fun ls hl => ?_)
  refine lv_goto (tgt := 50) hx hb dX6_minute_73 (by decide) ?_
  refine lv_iload_n hx hb dX6_minute_50 rfl (lv_at hl 0 rfl) ?_
  refine lv_iconst (v := 4) hx hb dX6_minute_51 (by decide) ?_
  refine lv_icmp_ge (tgt := 76) hx hb dX6_minute_52 (by decide) (fun c_10 => ?_) (fun q9 => absurd (show (4 : Int32) ≤ (4 : Int32) from (by decide)) (show ¬ ((4 : Int32) ≤ (4 : Int32)) from q9))
  refine lv_aload_n hx hb dX6_minute_76 rfl (lv_at hl 2 rfl) ?_
  refine x_get (v := .ref (o 1)) X 0 0 in_X6 hP rfl rfl (by decide) wF_X6_7 rfl rfl dX6_minute_77 ?_
  refine lv_iconst (v := 4) hx hb dX6_minute_80 (by decide) ?_
  refine x_iald (v := ((((((y_4 4) + (y_4 1)) + (y_4 11)) + (y_4 18)) + (y_4 25)) + (y_4 32))) X 1 4 hP rfl rfl (by decide) (Nat.le_of_ble_eq_true rfl) rfl dX6_minute_81 ?_
  refine lv_aload_n hx hb dX6_minute_82 rfl (lv_at hl 2 rfl) ?_
  refine x_get (v := .ref (o 1)) X 0 0 in_X6 hP rfl rfl (by decide) wF_X6_7 rfl rfl dX6_minute_83 ?_
  refine lv_iconst (v := 3) hx hb dX6_minute_86 (by decide) ?_
  refine x_iald (v := (y_4 3)) X 1 3 hP rfl rfl (by decide) (Nat.le_of_ble_eq_true rfl) rfl dX6_minute_87 ?_
  refine lv_icmp_lt (tgt := 143) hx hb dX6_minute_88 (by decide) (fun (c_11 : ((((((y_4 4) + (y_4 1)) + (y_4 11)) + (y_4 18)) + (y_4 25)) + (y_4 32)) < (y_4 3)) => ?_) (fun (c_11 : ¬ ((((((y_4 4) + (y_4 1)) + (y_4 11)) + (y_4 18)) + (y_4 25)) + (y_4 32)) < (y_4 3)) => ?_)
  · have e4 : y_4 = (mi4M (mZ r)).1 := by rw [ey_4, ey_3, ey_2, ey_1]; rfl
    obtain ⟨y_5, ey_5⟩ : ∃ y : RI, y = (upd (upd (upd (upd (upd y_4 4 ((y_4 4) + (y_4 1))) 4 (((y_4 4) + (y_4 1)) + (y_4 11))) 4 ((((y_4 4) + (y_4 1)) + (y_4 11)) + (y_4 18))) 4 (((((y_4 4) + (y_4 1)) + (y_4 11)) + (y_4 18)) + (y_4 25))) 4 ((((((y_4 4) + (y_4 1)) + (y_4 11)) + (y_4 18)) + (y_4 25)) + (y_4 32))) := ⟨_, rfl⟩
    have e5 : y_5 = miY (mZ r) := by unfold miY; rw [← e4, ey_5]; exact (show shM y_4 = _ from (if_pos (show shSM y_4 < y_4 3 from c_11))).symm
    have hz7y : y_5 7 = nI cn := by rw [e5, miY_7]; exact hz
    have hP : va_P g.1 vwCl (MW g o (mz r y_5)) H := by rw [ey_5]; exact hP
    have hD : va_D A (MW g o (mz r y_5)) := by rw [ey_5]; exact hD
    refine lv_aload_n hx hb dX6_minute_143 rfl (lv_at hl 2 rfl) ?_
    refine x_goI (wn := MW g o (mz r y_5)) (x_rV (As := []) X (c_X6_minuteOfDay l g o (mz r y_5)   _) yf_X6_minuteOfDay yi_X6_minuteOfDay wM_X6_79 ⟨Nat.le_of_ble_eq_true rfl, Nat.le_of_ble_eq_true rfl⟩ hP hD (p_all _) 0 rfl rfl hl rfl rfl (Nat.le_of_ble_eq_true rfl) dX6_minute_144 ⟨Nat.zero_le _, Nat.zero_le _⟩) hP hD hS hA (p_all _) (p_back _) (fun H locs hP hD hS => ?_)
    refine lv_sipush (v := 720) hx hb dX6_minute_147 (by decide) ?_
    refine lv_icmp_ne (tgt := 168) hx hb dX6_minute_150 (by decide) (fun (c_12 : ¬ (jrem (y_5 0) 1440) = 720) => ?_) (fun (c_12 : (jrem (y_5 0) 1440) = 720) => ?_)
    · refine lv_iload_n hx hb dX6_minute_168 rfl (lv_at hl 1 rfl) ?_
      have E : (MW g o (mz r y_5) : va_W) = MW g o (mz r (minM cn (mZ r))) := by simp only [minM]; rw [← e5, if_neg c_12]
      exact x_iret X hr hlocks (pw E hP) (dw E hD) hS (by rw [ey_3, ey_2, ey_1]; rfl) dX6_minute_169
    · refine lv_aload_n hx hb dX6_minute_153 rfl (lv_at hl 2 rfl) ?_
      refine x_get (v := .ref (o 1)) X 0 0 in_X6 hP rfl rfl (by decide) wF_X6_7 rfl rfl dX6_minute_154 ?_
      refine lv_bipush (v := 7) hx hb dX6_minute_157 (by decide) ?_
      refine x_iald (v := (y_5 7)) X 1 7 hP rfl rfl (by decide) (Nat.le_of_ble_eq_true rfl) rfl dX6_minute_159 ?_
      refine lv_if_le (tgt := 168) hx hb dX6_minute_160 (by decide) (fun (c_13 : (y_5 7) ≤ 0) => ?_) (fun (c_13 : ¬ (y_5 7) ≤ 0) => ?_)
      · refine lv_iload_n hx hb dX6_minute_168 rfl (lv_at hl 1 rfl) ?_
        have E : (MW g o (mz r y_5) : va_W) = MW g o (mz r (minM cn (mZ r))) := by simp only [minM]; rw [← e5, if_pos c_12, if_pos c_13]
        exact x_iret X hr hlocks (pw E hP) (dw E hD) hS (by rw [ey_3, ey_2, ey_1]; rfl) dX6_minute_169
      · refine lv_aload_n hx hb dX6_minute_163 rfl (lv_at hl 2 rfl) ?_
        refine x_goI (wn := MW g o (mz r (rzM cn y_5))) (x_rV (As := []) X (c_X6_resets l g o (mz r y_5) cn hc hz7y (hpos hz7y c_13)  _) yf_X6_resets yi_X6_resets wM_X6_83 ⟨Nat.le_of_ble_eq_true rfl, Nat.le_of_ble_eq_true rfl⟩ hP hD (p_all _) 0 rfl rfl hl rfl rfl (Nat.le_of_ble_eq_true rfl) dX6_minute_164 ⟨Nat.zero_le _, Nat.zero_le _⟩) hP hD hS hA (p_all _) (p_back _) (fun H locs hP hD hS => ?_)
        refine lv_pop hx hb dX6_minute_167 rfl ?_
        refine lv_iload_n hx hb dX6_minute_168 rfl (lv_at hl 1 rfl) ?_
        have E : (MW g o (mz r (rzM cn y_5)) : va_W) = MW g o (mz r (minM cn (mZ r))) := by simp only [minM]; rw [← e5, if_pos c_12, if_neg c_13]
        exact x_iret X hr hlocks (pw E hP) (dw E hD) hS (by rw [ey_3, ey_2, ey_1]; rfl) dX6_minute_169
  · refine lv_aload_n hx hb dX6_minute_91 rfl (lv_at hl 2 rfl) ?_
    refine x_get (v := .ref (o 1)) X 0 0 in_X6 hP rfl rfl (by decide) wF_X6_7 rfl rfl dX6_minute_92 ?_
    refine lv_iconst (v := 4) hx hb dX6_minute_95 (by decide) ?_
    refine lv_iconst (v := 0) hx hb dX6_minute_96 (by decide) ?_
    refine x_iast (ws2 := MW g o (mz r (upd (upd (upd (upd (upd (upd y_4 4 ((y_4 4) + (y_4 1))) 4 (((y_4 4) + (y_4 1)) + (y_4 11))) 4 ((((y_4 4) + (y_4 1)) + (y_4 11)) + (y_4 18))) 4 (((((y_4 4) + (y_4 1)) + (y_4 11)) + (y_4 18)) + (y_4 25))) 4 ((((((y_4 4) + (y_4 1)) + (y_4 11)) + (y_4 18)) + (y_4 25)) + (y_4 32))) 4 0))) X 1 4 hP hD hS rfl rfl (by decide) (Nat.le_of_ble_eq_true rfl) rfl dX6_minute_97 (fun H locs hP hD hS => ?_)
    refine lv_aload_n hx hb dX6_minute_98 rfl (lv_at hl 2 rfl) ?_
    refine x_get (v := .ref (o 1)) X 0 0 in_X6 hP rfl rfl (by decide) wF_X6_7 rfl rfl dX6_minute_99 ?_
    refine lv_iconst (v := 5) hx hb dX6_minute_102 (by decide) ?_
    refine lv_dup2_11 hx hb dX6_minute_103 rfl rfl ?_
    refine x_iald (v := (y_4 5)) X 1 5 hP rfl rfl (by decide) (Nat.le_of_ble_eq_true rfl) rfl dX6_minute_104 ?_
    refine lv_iconst (v := 1) hx hb dX6_minute_105 (by decide) ?_
    refine lv_iadd hx hb dX6_minute_106 ?_
    refine x_iast (ws2 := MW g o (mz r (upd (upd (upd (upd (upd (upd (upd y_4 4 ((y_4 4) + (y_4 1))) 4 (((y_4 4) + (y_4 1)) + (y_4 11))) 4 ((((y_4 4) + (y_4 1)) + (y_4 11)) + (y_4 18))) 4 (((((y_4 4) + (y_4 1)) + (y_4 11)) + (y_4 18)) + (y_4 25))) 4 ((((((y_4 4) + (y_4 1)) + (y_4 11)) + (y_4 18)) + (y_4 25)) + (y_4 32))) 4 0) 5 ((y_4 5) + 1)))) X 1 5 hP hD hS rfl rfl (by decide) (Nat.le_of_ble_eq_true rfl) rfl dX6_minute_107 (fun H locs hP hD hS => ?_)
    refine lv_iconst (v := 0) hx hb dX6_minute_108 (by decide) ?_
    refine lv_istore_n (lv' := [(2, .int 0), (1, .int ((((0 + ((turnM 8 (upd (mZ r) 0 (((mZ r) 0) + 1))).2)) + ((turnM 15 y_1).2)) + ((turnM 22 y_2).2)) + ((turnM 29 y_3).2))), (0, .ref (o 0))]) hx hb dX6_minute_109 rfl hl (by decide) rfl (fun ls hl => ?_)
    refine lv_iload_n hx hb dX6_minute_110 rfl (lv_at hl 0 rfl) ?_
    refine lv_iconst (v := 4) hx hb dX6_minute_111 (by decide) ?_
    refine lv_icmp_ge (tgt := 143) hx hb dX6_minute_112 (by decide) (fun q9 => absurd q9 (show ¬ (4 : Int32) ≤ (0 : Int32) from (by decide))) (fun c_14 => ?_)
    refine lv_aload_n hx hb dX6_minute_115 rfl (lv_at hl 2 rfl) ?_
    refine lv_iload_n hx hb dX6_minute_116 rfl (lv_at hl 0 rfl) ?_
    refine lv_iconst (v := 0) hx hb dX6_minute_117 (by decide) ?_
    refine lv_aload_n hx hb dX6_minute_118 rfl (lv_at hl 2 rfl) ?_
    refine lv_iload_n hx hb dX6_minute_119 rfl (lv_at hl 0 rfl) ?_
    refine lv_iconst (v := 0) hx hb dX6_minute_120 (by decide) ?_
    refine x_goI (wn := MW g o (mz r (upd (upd (upd (upd (upd (upd (upd y_4 4 ((y_4 4) + (y_4 1))) 4 (((y_4 4) + (y_4 1)) + (y_4 11))) 4 ((((y_4 4) + (y_4 1)) + (y_4 11)) + (y_4 18))) 4 (((((y_4 4) + (y_4 1)) + (y_4 11)) + (y_4 18)) + (y_4 25))) 4 ((((((y_4 4) + (y_4 1)) + (y_4 11)) + (y_4 18)) + (y_4 25)) + (y_4 32))) 4 0) 5 ((y_4 5) + 1)))) (x_rV (As := [.int 0, .int 0]) X (c_X6_of l g o (mz r (upd (upd (upd (upd (upd (upd (upd y_4 4 ((y_4 4) + (y_4 1))) 4 (((y_4 4) + (y_4 1)) + (y_4 11))) 4 ((((y_4 4) + (y_4 1)) + (y_4 11)) + (y_4 18))) 4 (((((y_4 4) + (y_4 1)) + (y_4 11)) + (y_4 18)) + (y_4 25))) 4 ((((((y_4 4) + (y_4 1)) + (y_4 11)) + (y_4 18)) + (y_4 25)) + (y_4 32))) 4 0) 5 ((y_4 5) + 1))) 0 0 (by decide) (by decide)  _) yf_X6_of yi_X6_of wM_X6_56 ⟨Nat.le_of_ble_eq_true rfl, Nat.le_of_ble_eq_true rfl⟩ hP hD (p_all _) 0 rfl rfl hl rfl rfl (Nat.le_of_ble_eq_true rfl) dX6_minute_121 ⟨Nat.zero_le _, Nat.zero_le _⟩) hP hD hS hA (p_all _) (p_back _) (fun H locs hP hD hS => ?_)
    refine lv_sipush (v := 720) hx hb dX6_minute_124 (by decide) ?_
    refine lv_iadd hx hb dX6_minute_127 ?_
    refine lv_iconst (v := 1) hx hb dX6_minute_128 (by decide) ?_
    refine lv_isub hx hb dX6_minute_129 ?_
    refine lv_sipush (v := 720) hx hb dX6_minute_130 (by decide) ?_
    refine lv_irem hx hb dX6_minute_133 (by decide) ?_
    refine x_goV (wn := MW g o (mz r (upd (upd (upd (upd (upd (upd (upd (upd y_4 4 ((y_4 4) + (y_4 1))) 4 (((y_4 4) + (y_4 1)) + (y_4 11))) 4 ((((y_4 4) + (y_4 1)) + (y_4 11)) + (y_4 18))) 4 (((((y_4 4) + (y_4 1)) + (y_4 11)) + (y_4 18)) + (y_4 25))) 4 ((((((y_4 4) + (y_4 1)) + (y_4 11)) + (y_4 18)) + (y_4 25)) + (y_4 32))) 4 0) 5 ((y_4 5) + 1)) 8 (jrem (((y_4 8) + 720) - 1) 720)))) (x_rV (As := [.int 0, .int 0, .int (jrem (((y_4 8) + 720) - 1) 720)]) X (c_X6_lays l g o (mz r (upd (upd (upd (upd (upd (upd (upd y_4 4 ((y_4 4) + (y_4 1))) 4 (((y_4 4) + (y_4 1)) + (y_4 11))) 4 ((((y_4 4) + (y_4 1)) + (y_4 11)) + (y_4 18))) 4 (((((y_4 4) + (y_4 1)) + (y_4 11)) + (y_4 18)) + (y_4 25))) 4 ((((((y_4 4) + (y_4 1)) + (y_4 11)) + (y_4 18)) + (y_4 25)) + (y_4 32))) 4 0) 5 ((y_4 5) + 1))) 0 0 (by decide) (by decide) (jrem (((y_4 8) + 720) - 1) 720)  _) yf_X6_lays yi_X6_lays wM_X6_29 ⟨Nat.le_of_ble_eq_true rfl, Nat.le_of_ble_eq_true rfl⟩ hP hD (p_all _) 0 rfl rfl hl rfl rfl (Nat.le_of_ble_eq_true rfl) dX6_minute_134 ⟨Nat.zero_le _, Nat.zero_le _⟩) hP hD hS hA (p_all _) (p_back _) (fun H locs hP hD hS => ?_)
    refine lv_iinc (v := 1) (lv' := [(2, .int 1), (1, .int ((((0 + ((turnM 8 (upd (mZ r) 0 (((mZ r) 0) + 1))).2)) + ((turnM 15 y_1).2)) + ((turnM 22 y_2).2)) + ((turnM 29 y_3).2))), (0, .ref (o 0))]) hx hb dX6_minute_137 hl (k := 0) rfl rfl (by decide) rfl (fun ls hl => ?_)
    refine lv_goto (tgt := 110) hx hb dX6_minute_140 (by decide) ?_
    refine lv_iload_n hx hb dX6_minute_110 rfl (lv_at hl 0 rfl) ?_
    refine lv_iconst (v := 4) hx hb dX6_minute_111 (by decide) ?_
    refine lv_icmp_ge (tgt := 143) hx hb dX6_minute_112 (by decide) (fun q9 => absurd q9 (show ¬ (4 : Int32) ≤ (1 : Int32) from (by decide))) (fun c_15 => ?_)
    refine lv_aload_n hx hb dX6_minute_115 rfl (lv_at hl 2 rfl) ?_
    refine lv_iload_n hx hb dX6_minute_116 rfl (lv_at hl 0 rfl) ?_
    refine lv_iconst (v := 0) hx hb dX6_minute_117 (by decide) ?_
    refine lv_aload_n hx hb dX6_minute_118 rfl (lv_at hl 2 rfl) ?_
    refine lv_iload_n hx hb dX6_minute_119 rfl (lv_at hl 0 rfl) ?_
    refine lv_iconst (v := 0) hx hb dX6_minute_120 (by decide) ?_
    refine x_goI (wn := MW g o (mz r (upd (upd (upd (upd (upd (upd (upd (upd y_4 4 ((y_4 4) + (y_4 1))) 4 (((y_4 4) + (y_4 1)) + (y_4 11))) 4 ((((y_4 4) + (y_4 1)) + (y_4 11)) + (y_4 18))) 4 (((((y_4 4) + (y_4 1)) + (y_4 11)) + (y_4 18)) + (y_4 25))) 4 ((((((y_4 4) + (y_4 1)) + (y_4 11)) + (y_4 18)) + (y_4 25)) + (y_4 32))) 4 0) 5 ((y_4 5) + 1)) 8 (jrem (((y_4 8) + 720) - 1) 720)))) (x_rV (As := [.int 1, .int 0]) X (c_X6_of l g o (mz r (upd (upd (upd (upd (upd (upd (upd (upd y_4 4 ((y_4 4) + (y_4 1))) 4 (((y_4 4) + (y_4 1)) + (y_4 11))) 4 ((((y_4 4) + (y_4 1)) + (y_4 11)) + (y_4 18))) 4 (((((y_4 4) + (y_4 1)) + (y_4 11)) + (y_4 18)) + (y_4 25))) 4 ((((((y_4 4) + (y_4 1)) + (y_4 11)) + (y_4 18)) + (y_4 25)) + (y_4 32))) 4 0) 5 ((y_4 5) + 1)) 8 (jrem (((y_4 8) + 720) - 1) 720))) 1 0 (by decide) (by decide)  _) yf_X6_of yi_X6_of wM_X6_56 ⟨Nat.le_of_ble_eq_true rfl, Nat.le_of_ble_eq_true rfl⟩ hP hD (p_all _) 0 rfl rfl hl rfl rfl (Nat.le_of_ble_eq_true rfl) dX6_minute_121 ⟨Nat.zero_le _, Nat.zero_le _⟩) hP hD hS hA (p_all _) (p_back _) (fun H locs hP hD hS => ?_)
    refine lv_sipush (v := 720) hx hb dX6_minute_124 (by decide) ?_
    refine lv_iadd hx hb dX6_minute_127 ?_
    refine lv_iconst (v := 1) hx hb dX6_minute_128 (by decide) ?_
    refine lv_isub hx hb dX6_minute_129 ?_
    refine lv_sipush (v := 720) hx hb dX6_minute_130 (by decide) ?_
    refine lv_irem hx hb dX6_minute_133 (by decide) ?_
    refine x_goV (wn := MW g o (mz r (upd (upd (upd (upd (upd (upd (upd (upd (upd y_4 4 ((y_4 4) + (y_4 1))) 4 (((y_4 4) + (y_4 1)) + (y_4 11))) 4 ((((y_4 4) + (y_4 1)) + (y_4 11)) + (y_4 18))) 4 (((((y_4 4) + (y_4 1)) + (y_4 11)) + (y_4 18)) + (y_4 25))) 4 ((((((y_4 4) + (y_4 1)) + (y_4 11)) + (y_4 18)) + (y_4 25)) + (y_4 32))) 4 0) 5 ((y_4 5) + 1)) 8 (jrem (((y_4 8) + 720) - 1) 720)) 15 (jrem (((y_4 15) + 720) - 1) 720)))) (x_rV (As := [.int 1, .int 0, .int (jrem (((y_4 15) + 720) - 1) 720)]) X (c_X6_lays l g o (mz r (upd (upd (upd (upd (upd (upd (upd (upd y_4 4 ((y_4 4) + (y_4 1))) 4 (((y_4 4) + (y_4 1)) + (y_4 11))) 4 ((((y_4 4) + (y_4 1)) + (y_4 11)) + (y_4 18))) 4 (((((y_4 4) + (y_4 1)) + (y_4 11)) + (y_4 18)) + (y_4 25))) 4 ((((((y_4 4) + (y_4 1)) + (y_4 11)) + (y_4 18)) + (y_4 25)) + (y_4 32))) 4 0) 5 ((y_4 5) + 1)) 8 (jrem (((y_4 8) + 720) - 1) 720))) 1 0 (by decide) (by decide) (jrem (((y_4 15) + 720) - 1) 720)  _) yf_X6_lays yi_X6_lays wM_X6_29 ⟨Nat.le_of_ble_eq_true rfl, Nat.le_of_ble_eq_true rfl⟩ hP hD (p_all _) 0 rfl rfl hl rfl rfl (Nat.le_of_ble_eq_true rfl) dX6_minute_134 ⟨Nat.zero_le _, Nat.zero_le _⟩) hP hD hS hA (p_all _) (p_back _) (fun H locs hP hD hS => ?_)
    refine lv_iinc (v := 2) (lv' := [(2, .int 2), (1, .int ((((0 + ((turnM 8 (upd (mZ r) 0 (((mZ r) 0) + 1))).2)) + ((turnM 15 y_1).2)) + ((turnM 22 y_2).2)) + ((turnM 29 y_3).2))), (0, .ref (o 0))]) hx hb dX6_minute_137 hl (k := 0) rfl rfl (by decide) rfl (fun ls hl => ?_)
    refine lv_goto (tgt := 110) hx hb dX6_minute_140 (by decide) ?_
    refine lv_iload_n hx hb dX6_minute_110 rfl (lv_at hl 0 rfl) ?_
    refine lv_iconst (v := 4) hx hb dX6_minute_111 (by decide) ?_
    refine lv_icmp_ge (tgt := 143) hx hb dX6_minute_112 (by decide) (fun q9 => absurd q9 (show ¬ (4 : Int32) ≤ (2 : Int32) from (by decide))) (fun c_16 => ?_)
    refine lv_aload_n hx hb dX6_minute_115 rfl (lv_at hl 2 rfl) ?_
    refine lv_iload_n hx hb dX6_minute_116 rfl (lv_at hl 0 rfl) ?_
    refine lv_iconst (v := 0) hx hb dX6_minute_117 (by decide) ?_
    refine lv_aload_n hx hb dX6_minute_118 rfl (lv_at hl 2 rfl) ?_
    refine lv_iload_n hx hb dX6_minute_119 rfl (lv_at hl 0 rfl) ?_
    refine lv_iconst (v := 0) hx hb dX6_minute_120 (by decide) ?_
    refine x_goI (wn := MW g o (mz r (upd (upd (upd (upd (upd (upd (upd (upd (upd y_4 4 ((y_4 4) + (y_4 1))) 4 (((y_4 4) + (y_4 1)) + (y_4 11))) 4 ((((y_4 4) + (y_4 1)) + (y_4 11)) + (y_4 18))) 4 (((((y_4 4) + (y_4 1)) + (y_4 11)) + (y_4 18)) + (y_4 25))) 4 ((((((y_4 4) + (y_4 1)) + (y_4 11)) + (y_4 18)) + (y_4 25)) + (y_4 32))) 4 0) 5 ((y_4 5) + 1)) 8 (jrem (((y_4 8) + 720) - 1) 720)) 15 (jrem (((y_4 15) + 720) - 1) 720)))) (x_rV (As := [.int 2, .int 0]) X (c_X6_of l g o (mz r (upd (upd (upd (upd (upd (upd (upd (upd (upd y_4 4 ((y_4 4) + (y_4 1))) 4 (((y_4 4) + (y_4 1)) + (y_4 11))) 4 ((((y_4 4) + (y_4 1)) + (y_4 11)) + (y_4 18))) 4 (((((y_4 4) + (y_4 1)) + (y_4 11)) + (y_4 18)) + (y_4 25))) 4 ((((((y_4 4) + (y_4 1)) + (y_4 11)) + (y_4 18)) + (y_4 25)) + (y_4 32))) 4 0) 5 ((y_4 5) + 1)) 8 (jrem (((y_4 8) + 720) - 1) 720)) 15 (jrem (((y_4 15) + 720) - 1) 720))) 2 0 (by decide) (by decide)  _) yf_X6_of yi_X6_of wM_X6_56 ⟨Nat.le_of_ble_eq_true rfl, Nat.le_of_ble_eq_true rfl⟩ hP hD (p_all _) 0 rfl rfl hl rfl rfl (Nat.le_of_ble_eq_true rfl) dX6_minute_121 ⟨Nat.zero_le _, Nat.zero_le _⟩) hP hD hS hA (p_all _) (p_back _) (fun H locs hP hD hS => ?_)
    refine lv_sipush (v := 720) hx hb dX6_minute_124 (by decide) ?_
    refine lv_iadd hx hb dX6_minute_127 ?_
    refine lv_iconst (v := 1) hx hb dX6_minute_128 (by decide) ?_
    refine lv_isub hx hb dX6_minute_129 ?_
    refine lv_sipush (v := 720) hx hb dX6_minute_130 (by decide) ?_
    refine lv_irem hx hb dX6_minute_133 (by decide) ?_
    refine x_goV (wn := MW g o (mz r (upd (upd (upd (upd (upd (upd (upd (upd (upd (upd y_4 4 ((y_4 4) + (y_4 1))) 4 (((y_4 4) + (y_4 1)) + (y_4 11))) 4 ((((y_4 4) + (y_4 1)) + (y_4 11)) + (y_4 18))) 4 (((((y_4 4) + (y_4 1)) + (y_4 11)) + (y_4 18)) + (y_4 25))) 4 ((((((y_4 4) + (y_4 1)) + (y_4 11)) + (y_4 18)) + (y_4 25)) + (y_4 32))) 4 0) 5 ((y_4 5) + 1)) 8 (jrem (((y_4 8) + 720) - 1) 720)) 15 (jrem (((y_4 15) + 720) - 1) 720)) 22 (jrem (((y_4 22) + 720) - 1) 720)))) (x_rV (As := [.int 2, .int 0, .int (jrem (((y_4 22) + 720) - 1) 720)]) X (c_X6_lays l g o (mz r (upd (upd (upd (upd (upd (upd (upd (upd (upd y_4 4 ((y_4 4) + (y_4 1))) 4 (((y_4 4) + (y_4 1)) + (y_4 11))) 4 ((((y_4 4) + (y_4 1)) + (y_4 11)) + (y_4 18))) 4 (((((y_4 4) + (y_4 1)) + (y_4 11)) + (y_4 18)) + (y_4 25))) 4 ((((((y_4 4) + (y_4 1)) + (y_4 11)) + (y_4 18)) + (y_4 25)) + (y_4 32))) 4 0) 5 ((y_4 5) + 1)) 8 (jrem (((y_4 8) + 720) - 1) 720)) 15 (jrem (((y_4 15) + 720) - 1) 720))) 2 0 (by decide) (by decide) (jrem (((y_4 22) + 720) - 1) 720)  _) yf_X6_lays yi_X6_lays wM_X6_29 ⟨Nat.le_of_ble_eq_true rfl, Nat.le_of_ble_eq_true rfl⟩ hP hD (p_all _) 0 rfl rfl hl rfl rfl (Nat.le_of_ble_eq_true rfl) dX6_minute_134 ⟨Nat.zero_le _, Nat.zero_le _⟩) hP hD hS hA (p_all _) (p_back _) (fun H locs hP hD hS => ?_)
    refine lv_iinc (v := 3) (lv' := [(2, .int 3), (1, .int ((((0 + ((turnM 8 (upd (mZ r) 0 (((mZ r) 0) + 1))).2)) + ((turnM 15 y_1).2)) + ((turnM 22 y_2).2)) + ((turnM 29 y_3).2))), (0, .ref (o 0))]) hx hb dX6_minute_137 hl (k := 0) rfl rfl (by decide) rfl (fun ls hl => ?_)
    refine lv_goto (tgt := 110) hx hb dX6_minute_140 (by decide) ?_
    refine lv_iload_n hx hb dX6_minute_110 rfl (lv_at hl 0 rfl) ?_
    refine lv_iconst (v := 4) hx hb dX6_minute_111 (by decide) ?_
    refine lv_icmp_ge (tgt := 143) hx hb dX6_minute_112 (by decide) (fun q9 => absurd q9 (show ¬ (4 : Int32) ≤ (3 : Int32) from (by decide))) (fun c_17 => ?_)
    refine lv_aload_n hx hb dX6_minute_115 rfl (lv_at hl 2 rfl) ?_
    refine lv_iload_n hx hb dX6_minute_116 rfl (lv_at hl 0 rfl) ?_
    refine lv_iconst (v := 0) hx hb dX6_minute_117 (by decide) ?_
    refine lv_aload_n hx hb dX6_minute_118 rfl (lv_at hl 2 rfl) ?_
    refine lv_iload_n hx hb dX6_minute_119 rfl (lv_at hl 0 rfl) ?_
    refine lv_iconst (v := 0) hx hb dX6_minute_120 (by decide) ?_
    refine x_goI (wn := MW g o (mz r (upd (upd (upd (upd (upd (upd (upd (upd (upd (upd y_4 4 ((y_4 4) + (y_4 1))) 4 (((y_4 4) + (y_4 1)) + (y_4 11))) 4 ((((y_4 4) + (y_4 1)) + (y_4 11)) + (y_4 18))) 4 (((((y_4 4) + (y_4 1)) + (y_4 11)) + (y_4 18)) + (y_4 25))) 4 ((((((y_4 4) + (y_4 1)) + (y_4 11)) + (y_4 18)) + (y_4 25)) + (y_4 32))) 4 0) 5 ((y_4 5) + 1)) 8 (jrem (((y_4 8) + 720) - 1) 720)) 15 (jrem (((y_4 15) + 720) - 1) 720)) 22 (jrem (((y_4 22) + 720) - 1) 720)))) (x_rV (As := [.int 3, .int 0]) X (c_X6_of l g o (mz r (upd (upd (upd (upd (upd (upd (upd (upd (upd (upd y_4 4 ((y_4 4) + (y_4 1))) 4 (((y_4 4) + (y_4 1)) + (y_4 11))) 4 ((((y_4 4) + (y_4 1)) + (y_4 11)) + (y_4 18))) 4 (((((y_4 4) + (y_4 1)) + (y_4 11)) + (y_4 18)) + (y_4 25))) 4 ((((((y_4 4) + (y_4 1)) + (y_4 11)) + (y_4 18)) + (y_4 25)) + (y_4 32))) 4 0) 5 ((y_4 5) + 1)) 8 (jrem (((y_4 8) + 720) - 1) 720)) 15 (jrem (((y_4 15) + 720) - 1) 720)) 22 (jrem (((y_4 22) + 720) - 1) 720))) 3 0 (by decide) (by decide)  _) yf_X6_of yi_X6_of wM_X6_56 ⟨Nat.le_of_ble_eq_true rfl, Nat.le_of_ble_eq_true rfl⟩ hP hD (p_all _) 0 rfl rfl hl rfl rfl (Nat.le_of_ble_eq_true rfl) dX6_minute_121 ⟨Nat.zero_le _, Nat.zero_le _⟩) hP hD hS hA (p_all _) (p_back _) (fun H locs hP hD hS => ?_)
    refine lv_sipush (v := 720) hx hb dX6_minute_124 (by decide) ?_
    refine lv_iadd hx hb dX6_minute_127 ?_
    refine lv_iconst (v := 1) hx hb dX6_minute_128 (by decide) ?_
    refine lv_isub hx hb dX6_minute_129 ?_
    refine lv_sipush (v := 720) hx hb dX6_minute_130 (by decide) ?_
    refine lv_irem hx hb dX6_minute_133 (by decide) ?_
    refine x_goV (wn := MW g o (mz r (upd (upd (upd (upd (upd (upd (upd (upd (upd (upd (upd y_4 4 ((y_4 4) + (y_4 1))) 4 (((y_4 4) + (y_4 1)) + (y_4 11))) 4 ((((y_4 4) + (y_4 1)) + (y_4 11)) + (y_4 18))) 4 (((((y_4 4) + (y_4 1)) + (y_4 11)) + (y_4 18)) + (y_4 25))) 4 ((((((y_4 4) + (y_4 1)) + (y_4 11)) + (y_4 18)) + (y_4 25)) + (y_4 32))) 4 0) 5 ((y_4 5) + 1)) 8 (jrem (((y_4 8) + 720) - 1) 720)) 15 (jrem (((y_4 15) + 720) - 1) 720)) 22 (jrem (((y_4 22) + 720) - 1) 720)) 29 (jrem (((y_4 29) + 720) - 1) 720)))) (x_rV (As := [.int 3, .int 0, .int (jrem (((y_4 29) + 720) - 1) 720)]) X (c_X6_lays l g o (mz r (upd (upd (upd (upd (upd (upd (upd (upd (upd (upd y_4 4 ((y_4 4) + (y_4 1))) 4 (((y_4 4) + (y_4 1)) + (y_4 11))) 4 ((((y_4 4) + (y_4 1)) + (y_4 11)) + (y_4 18))) 4 (((((y_4 4) + (y_4 1)) + (y_4 11)) + (y_4 18)) + (y_4 25))) 4 ((((((y_4 4) + (y_4 1)) + (y_4 11)) + (y_4 18)) + (y_4 25)) + (y_4 32))) 4 0) 5 ((y_4 5) + 1)) 8 (jrem (((y_4 8) + 720) - 1) 720)) 15 (jrem (((y_4 15) + 720) - 1) 720)) 22 (jrem (((y_4 22) + 720) - 1) 720))) 3 0 (by decide) (by decide) (jrem (((y_4 29) + 720) - 1) 720)  _) yf_X6_lays yi_X6_lays wM_X6_29 ⟨Nat.le_of_ble_eq_true rfl, Nat.le_of_ble_eq_true rfl⟩ hP hD (p_all _) 0 rfl rfl hl rfl rfl (Nat.le_of_ble_eq_true rfl) dX6_minute_134 ⟨Nat.zero_le _, Nat.zero_le _⟩) hP hD hS hA (p_all _) (p_back _) (fun H locs hP hD hS => ?_)
    refine lv_iinc (v := 4) (lv' := [(2, .int 4), (1, .int ((((0 + ((turnM 8 (upd (mZ r) 0 (((mZ r) 0) + 1))).2)) + ((turnM 15 y_1).2)) + ((turnM 22 y_2).2)) + ((turnM 29 y_3).2))), (0, .ref (o 0))]) hx hb dX6_minute_137 hl (k := 0) rfl rfl (by decide) rfl (fun ls hl => ?_)
    refine lv_goto (tgt := 110) hx hb dX6_minute_140 (by decide) ?_
    refine lv_iload_n hx hb dX6_minute_110 rfl (lv_at hl 0 rfl) ?_
    refine lv_iconst (v := 4) hx hb dX6_minute_111 (by decide) ?_
    refine lv_icmp_ge (tgt := 143) hx hb dX6_minute_112 (by decide) (fun c_18 => ?_) (fun q9 => absurd (show (4 : Int32) ≤ (4 : Int32) from (by decide)) (show ¬ ((4 : Int32) ≤ (4 : Int32)) from q9))
    have e4 : y_4 = (mi4M (mZ r)).1 := by rw [ey_4, ey_3, ey_2, ey_1]; rfl
    obtain ⟨y_5, ey_5⟩ : ∃ y : RI, y = (upd (upd (upd (upd (upd (upd (upd (upd (upd (upd (upd y_4 4 ((y_4 4) + (y_4 1))) 4 (((y_4 4) + (y_4 1)) + (y_4 11))) 4 ((((y_4 4) + (y_4 1)) + (y_4 11)) + (y_4 18))) 4 (((((y_4 4) + (y_4 1)) + (y_4 11)) + (y_4 18)) + (y_4 25))) 4 ((((((y_4 4) + (y_4 1)) + (y_4 11)) + (y_4 18)) + (y_4 25)) + (y_4 32))) 4 0) 5 ((y_4 5) + 1)) 8 (jrem (((y_4 8) + 720) - 1) 720)) 15 (jrem (((y_4 15) + 720) - 1) 720)) 22 (jrem (((y_4 22) + 720) - 1) 720)) 29 (jrem (((y_4 29) + 720) - 1) 720)) := ⟨_, rfl⟩
    have e5 : y_5 = miY (mZ r) := by unfold miY; rw [← e4, ey_5]; exact (show shM y_4 = _ from (if_neg (show ¬ shSM y_4 < y_4 3 from c_11))).symm
    have hz7y : y_5 7 = nI cn := by rw [e5, miY_7]; exact hz
    have hP : va_P g.1 vwCl (MW g o (mz r y_5)) H := by rw [ey_5]; exact hP
    have hD : va_D A (MW g o (mz r y_5)) := by rw [ey_5]; exact hD
    refine lv_aload_n hx hb dX6_minute_143 rfl (lv_at hl 2 rfl) ?_
    refine x_goI (wn := MW g o (mz r y_5)) (x_rV (As := []) X (c_X6_minuteOfDay l g o (mz r y_5)   _) yf_X6_minuteOfDay yi_X6_minuteOfDay wM_X6_79 ⟨Nat.le_of_ble_eq_true rfl, Nat.le_of_ble_eq_true rfl⟩ hP hD (p_all _) 0 rfl rfl hl rfl rfl (Nat.le_of_ble_eq_true rfl) dX6_minute_144 ⟨Nat.zero_le _, Nat.zero_le _⟩) hP hD hS hA (p_all _) (p_back _) (fun H locs hP hD hS => ?_)
    refine lv_sipush (v := 720) hx hb dX6_minute_147 (by decide) ?_
    refine lv_icmp_ne (tgt := 168) hx hb dX6_minute_150 (by decide) (fun (c_19 : ¬ (jrem (y_5 0) 1440) = 720) => ?_) (fun (c_19 : (jrem (y_5 0) 1440) = 720) => ?_)
    · refine lv_iload_n hx hb dX6_minute_168 rfl (lv_at hl 1 rfl) ?_
      have E : (MW g o (mz r y_5) : va_W) = MW g o (mz r (minM cn (mZ r))) := by simp only [minM]; rw [← e5, if_neg c_19]
      exact x_iret X hr hlocks (pw E hP) (dw E hD) hS (by rw [ey_3, ey_2, ey_1]; rfl) dX6_minute_169
    · refine lv_aload_n hx hb dX6_minute_153 rfl (lv_at hl 2 rfl) ?_
      refine x_get (v := .ref (o 1)) X 0 0 in_X6 hP rfl rfl (by decide) wF_X6_7 rfl rfl dX6_minute_154 ?_
      refine lv_bipush (v := 7) hx hb dX6_minute_157 (by decide) ?_
      refine x_iald (v := (y_5 7)) X 1 7 hP rfl rfl (by decide) (Nat.le_of_ble_eq_true rfl) rfl dX6_minute_159 ?_
      refine lv_if_le (tgt := 168) hx hb dX6_minute_160 (by decide) (fun (c_20 : (y_5 7) ≤ 0) => ?_) (fun (c_20 : ¬ (y_5 7) ≤ 0) => ?_)
      · refine lv_iload_n hx hb dX6_minute_168 rfl (lv_at hl 1 rfl) ?_
        have E : (MW g o (mz r y_5) : va_W) = MW g o (mz r (minM cn (mZ r))) := by simp only [minM]; rw [← e5, if_pos c_19, if_pos c_20]
        exact x_iret X hr hlocks (pw E hP) (dw E hD) hS (by rw [ey_3, ey_2, ey_1]; rfl) dX6_minute_169
      · refine lv_aload_n hx hb dX6_minute_163 rfl (lv_at hl 2 rfl) ?_
        refine x_goI (wn := MW g o (mz r (rzM cn y_5))) (x_rV (As := []) X (c_X6_resets l g o (mz r y_5) cn hc hz7y (hpos hz7y c_20)  _) yf_X6_resets yi_X6_resets wM_X6_83 ⟨Nat.le_of_ble_eq_true rfl, Nat.le_of_ble_eq_true rfl⟩ hP hD (p_all _) 0 rfl rfl hl rfl rfl (Nat.le_of_ble_eq_true rfl) dX6_minute_164 ⟨Nat.zero_le _, Nat.zero_le _⟩) hP hD hS hA (p_all _) (p_back _) (fun H locs hP hD hS => ?_)
        refine lv_pop hx hb dX6_minute_167 rfl ?_
        refine lv_iload_n hx hb dX6_minute_168 rfl (lv_at hl 1 rfl) ?_
        have E : (MW g o (mz r (rzM cn y_5)) : va_W) = MW g o (mz r (minM cn (mZ r))) := by simp only [minM]; rw [← e5, if_pos c_19, if_neg c_20]
        exact x_iret X hr hlocks (pw E hP) (dw E hD) hS (by rw [ey_3, ey_2, ey_1]; rfl) dX6_minute_169

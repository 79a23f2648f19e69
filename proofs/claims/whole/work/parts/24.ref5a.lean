def unL (z : RI) (a : Int32) (w : Nat) : Nat → Nat → Int32 → Int32
  | 0, _, u => u
  | n + 1, k, u => if nI k = nI w then unL z a w n (k + 1) u else if u ≤ jrem ((z (36 + 2 * k) - a) + 1440) 1440 then unL z a w n (k + 1) u else unL z a w n (k + 1) (jrem ((z (36 + 2 * k) - a) + 1440) 1440)
def mKeeperW (z : RI) (cn : Nat) (a b : Int32) (w : Nat) : Int32 := if b = 0 then z (36 + 2 * w) else if b = 1 then z (36 + 2 * w + 1) else unL z a w cn 0 1440
def mKeeper (r : MS) (cn : Nat) (a b : Int32) : Int32 := if isw a 0 1439 = 0 then -1002 else if isw b 0 2 = 0 then -1002 else if mZ r 7 = 0 then -1000 else mKeeperW (mZ r) cn a b (owN (mZ r) a cn)
set_option maxHeartbeats 4000000 in
set_option maxRecDepth 100000 in
theorem c_X6_keeper_a (l : Launch) (g : wG) (o : Nat → Nat) (r : MS) (a b : Int32) (hi : isw a 0 1439 = 0) (cn : Nat) : CtI l g 3 yX6_keeper cX6_keeper 7 (some .int) [.ref (o 0), .int a, .int b] (MW g o r) (mKeeper r cn a b) (MW g o r) := by
  intro sz
  refine x_enter (Qc := fun A => QI g A (mKeeper r cn a b) (MW g o r)) (by decide) (Nat.le_of_ble_eq_true rfl) ?_
  intro p e s m args below meth c X hr hlocks A hA hP hD hS ls hl
  obtain ⟨⟨hx, hb, hml, hown, hts⟩, hK, hN⟩ := id X
  have hl : lv_has ls 7 [(0, .ref (o 0)), (1, .int a), (2, .int b)] := hl
  refine lv_iload_n hx hb dX6_keeper_0 rfl (lv_at hl 1 rfl) ?_
  refine lv_iconst (v := 0) hx hb dX6_keeper_1 (by decide) ?_
  refine lv_sipush (v := 1439) hx hb dX6_keeper_2 (by decide) ?_
  refine x_goI (wn := MW g o r) (x_rS (As := [.int a, .int 0, .int 1439]) X (c_X6_in l g a 0 1439 _) yf_X6_in ys_X6_in wM_X6_33 ⟨Nat.le_of_ble_eq_true rfl, Nat.le_of_ble_eq_true rfl⟩ hP hD (p_none _) hl rfl rfl (Nat.le_of_ble_eq_true rfl) dX6_keeper_5 ⟨Nat.zero_le _, Nat.zero_le _⟩) hP hD hS hA (p_none _) (p_noneB _) (fun H locs hP hD hS => ?_)
  refine lv_if_eq (tgt := 20) hx hb dX6_keeper_8 (by decide) (fun c_1 => ?_) (fun q9 => absurd (show (isw a 0 1439) = 0 from hi) (show ¬ ((isw a 0 1439) = 0) from q9))
  refine lv_sipush (v := (-1002)) hx hb dX6_keeper_20 (by decide) ?_
  exact x_iret X hr hlocks hP hD hS (by simp only [mKeeper, if_pos hi]) dX6_keeper_23

set_option maxHeartbeats 4000000 in
set_option maxRecDepth 100000 in
theorem c_X6_keeper_b (l : Launch) (g : wG) (o : Nat → Nat) (r : MS) (a b : Int32) (ha2 : ¬ isw a 0 1439 = 0) (hi : isw b 0 2 = 0) (cn : Nat) : CtI l g 3 yX6_keeper cX6_keeper 7 (some .int) [.ref (o 0), .int a, .int b] (MW g o r) (mKeeper r cn a b) (MW g o r) := by
  intro sz
  refine x_enter (Qc := fun A => QI g A (mKeeper r cn a b) (MW g o r)) (by decide) (Nat.le_of_ble_eq_true rfl) ?_
  intro p e s m args below meth c X hr hlocks A hA hP hD hS ls hl
  obtain ⟨⟨hx, hb, hml, hown, hts⟩, hK, hN⟩ := id X
  have hl : lv_has ls 7 [(0, .ref (o 0)), (1, .int a), (2, .int b)] := hl
  refine lv_iload_n hx hb dX6_keeper_0 rfl (lv_at hl 1 rfl) ?_
  refine lv_iconst (v := 0) hx hb dX6_keeper_1 (by decide) ?_
  refine lv_sipush (v := 1439) hx hb dX6_keeper_2 (by decide) ?_
  refine x_goI (wn := MW g o r) (x_rS (As := [.int a, .int 0, .int 1439]) X (c_X6_in l g a 0 1439 _) yf_X6_in ys_X6_in wM_X6_33 ⟨Nat.le_of_ble_eq_true rfl, Nat.le_of_ble_eq_true rfl⟩ hP hD (p_none _) hl rfl rfl (Nat.le_of_ble_eq_true rfl) dX6_keeper_5 ⟨Nat.zero_le _, Nat.zero_le _⟩) hP hD hS hA (p_none _) (p_noneB _) (fun H locs hP hD hS => ?_)
  refine lv_if_eq (tgt := 20) hx hb dX6_keeper_8 (by decide) (fun q9 => absurd q9 (show ¬ (isw a 0 1439) = 0 from ha2)) (fun c_1 => ?_)
  refine lv_iload_n hx hb dX6_keeper_11 rfl (lv_at hl 2 rfl) ?_
  refine lv_iconst (v := 0) hx hb dX6_keeper_12 (by decide) ?_
  refine lv_iconst (v := 2) hx hb dX6_keeper_13 (by decide) ?_
  refine x_goI (wn := MW g o r) (x_rS (As := [.int b, .int 0, .int 2]) X (c_X6_in l g b 0 2 _) yf_X6_in ys_X6_in wM_X6_33 ⟨Nat.le_of_ble_eq_true rfl, Nat.le_of_ble_eq_true rfl⟩ hP hD (p_none _) hl rfl rfl (Nat.le_of_ble_eq_true rfl) dX6_keeper_14 ⟨Nat.zero_le _, Nat.zero_le _⟩) hP hD hS hA (p_none _) (p_noneB _) (fun H locs hP hD hS => ?_)
  refine lv_if_ne (tgt := 24) hx hb dX6_keeper_17 (by decide) (fun q9 => absurd (show (isw b 0 2) = 0 from hi) q9) (fun c_2 => ?_)
  refine lv_sipush (v := (-1002)) hx hb dX6_keeper_20 (by decide) ?_
  exact x_iret X hr hlocks hP hD hS (by simp only [mKeeper, if_neg ha2, if_pos hi]) dX6_keeper_23

set_option maxHeartbeats 4000000 in
set_option maxRecDepth 100000 in
theorem c_X6_keeper_0 (l : Launch) (g : wG) (o : Nat → Nat) (r : MS) (a b : Int32) (ha2 : ¬ isw a 0 1439 = 0) (hq2 : ¬ isw b 0 2 = 0) (hz : mZ r 7 = nI 0) (cn : Nat) : CtI l g 3 yX6_keeper cX6_keeper 7 (some .int) [.ref (o 0), .int a, .int b] (MW g o r) (mKeeper r cn a b) (MW g o r) := by
  intro sz
  refine x_enter (Qc := fun A => QI g A (mKeeper r cn a b) (MW g o r)) (by decide) (Nat.le_of_ble_eq_true rfl) ?_
  intro p e s m args below meth c X hr hlocks A hA hP hD hS ls hl
  obtain ⟨⟨hx, hb, hml, hown, hts⟩, hK, hN⟩ := id X
  have hl : lv_has ls 7 [(0, .ref (o 0)), (1, .int a), (2, .int b)] := hl
  refine lv_iload_n hx hb dX6_keeper_0 rfl (lv_at hl 1 rfl) ?_
  refine lv_iconst (v := 0) hx hb dX6_keeper_1 (by decide) ?_
  refine lv_sipush (v := 1439) hx hb dX6_keeper_2 (by decide) ?_
  refine x_goI (wn := MW g o r) (x_rS (As := [.int a, .int 0, .int 1439]) X (c_X6_in l g a 0 1439 _) yf_X6_in ys_X6_in wM_X6_33 ⟨Nat.le_of_ble_eq_true rfl, Nat.le_of_ble_eq_true rfl⟩ hP hD (p_none _) hl rfl rfl (Nat.le_of_ble_eq_true rfl) dX6_keeper_5 ⟨Nat.zero_le _, Nat.zero_le _⟩) hP hD hS hA (p_none _) (p_noneB _) (fun H locs hP hD hS => ?_)
  refine lv_if_eq (tgt := 20) hx hb dX6_keeper_8 (by decide) (fun q9 => absurd q9 (show ¬ (isw a 0 1439) = 0 from ha2)) (fun c_1 => ?_)
  refine lv_iload_n hx hb dX6_keeper_11 rfl (lv_at hl 2 rfl) ?_
  refine lv_iconst (v := 0) hx hb dX6_keeper_12 (by decide) ?_
  refine lv_iconst (v := 2) hx hb dX6_keeper_13 (by decide) ?_
  refine x_goI (wn := MW g o r) (x_rS (As := [.int b, .int 0, .int 2]) X (c_X6_in l g b 0 2 _) yf_X6_in ys_X6_in wM_X6_33 ⟨Nat.le_of_ble_eq_true rfl, Nat.le_of_ble_eq_true rfl⟩ hP hD (p_none _) hl rfl rfl (Nat.le_of_ble_eq_true rfl) dX6_keeper_14 ⟨Nat.zero_le _, Nat.zero_le _⟩) hP hD hS hA (p_none _) (p_noneB _) (fun H locs hP hD hS => ?_)
  refine lv_if_ne (tgt := 24) hx hb dX6_keeper_17 (by decide) (fun c_2 => ?_) (fun q9 => absurd (show (isw b 0 2) = 0 from q9) (show ¬ (isw b 0 2) = 0 from hq2))
  refine lv_aload_n hx hb dX6_keeper_24 rfl (lv_at hl 0 rfl) ?_
  refine lv_iload_n hx hb dX6_keeper_25 rfl (lv_at hl 1 rfl) ?_
  refine x_goI (wn := MW g o r) (x_rV (As := [.int a]) X (c_X6_onWatch0 l g o r hz a  _) yf_X6_onWatch yi_X6_onWatch wM_X6_114 ⟨Nat.le_of_ble_eq_true rfl, Nat.le_of_ble_eq_true rfl⟩ hP hD (p_all _) 0 rfl rfl hl rfl rfl (Nat.le_of_ble_eq_true rfl) dX6_keeper_26 ⟨Nat.zero_le _, Nat.zero_le _⟩) hP hD hS hA (p_all _) (p_back _) (fun H locs hP hD hS => ?_)
  refine lv_istore_n (lv' := [(3, .int (-1000)), (0, .ref (o 0)), (1, .int a), (2, .int b)]) hx hb dX6_keeper_29 rfl hl (by decide) rfl (fun ls hl => ?_)
  refine lv_iload_n hx hb dX6_keeper_30 rfl (lv_at hl 0 rfl) ?_
  refine lv_sipush (v := (-1000)) hx hb dX6_keeper_31 (by decide) ?_
  refine lv_icmp_ne (tgt := 41) hx hb dX6_keeper_34 (by decide) (fun q9 => absurd (show (-1000 : Int32) = (-1000) from (by decide)) q9) (fun c_3 => ?_)
  refine lv_sipush (v := (-1000)) hx hb dX6_keeper_37 (by decide) ?_
  exact x_iret X hr hlocks hP hD hS (by simp only [mKeeper, if_neg ha2, if_neg hq2, if_pos (show mZ r 7 = 0 from hz)]) dX6_keeper_40

set_option maxHeartbeats 4000000 in
set_option maxRecDepth 100000 in
theorem c_X6_keeper_o (l : Launch) (g : wG) (o : Nat → Nat) (r : MS) (cn : Nat) (hc : cn ≤ 6) (hz : mZ r 7 = nI cn) (h1 : 1 ≤ cn) (a b : Int32) (ha2 : ¬ isw a 0 1439 = 0) (hq2 : ¬ isw b 0 2 = 0) (w : Nat) (hw : w < cn) (hw2 : owN (mZ r) a cn = w) : CtI l g 3 yX6_keeper cX6_keeper 7 (some .int) [.ref (o 0), .int a, .int b] (MW g o r) (mKeeperW (mZ r) cn a b w) (MW g o r) := by
  intro sz
  refine x_enter (Qc := fun A => QI g A (mKeeperW (mZ r) cn a b w) (MW g o r)) (by decide) (Nat.le_of_ble_eq_true rfl) ?_
  intro p e s m args below meth c X hr hlocks A hA hP hD hS ls hl
  obtain ⟨⟨hx, hb, hml, hown, hts⟩, hK, hN⟩ := id X
  have hl : lv_has ls 7 [(0, .ref (o 0)), (1, .int a), (2, .int b)] := hl
  refine lv_iload_n hx hb dX6_keeper_0 rfl (lv_at hl 1 rfl) ?_
  refine lv_iconst (v := 0) hx hb dX6_keeper_1 (by decide) ?_
  refine lv_sipush (v := 1439) hx hb dX6_keeper_2 (by decide) ?_
  refine x_goI (wn := MW g o r) (x_rS (As := [.int a, .int 0, .int 1439]) X (c_X6_in l g a 0 1439 _) yf_X6_in ys_X6_in wM_X6_33 ⟨Nat.le_of_ble_eq_true rfl, Nat.le_of_ble_eq_true rfl⟩ hP hD (p_none _) hl rfl rfl (Nat.le_of_ble_eq_true rfl) dX6_keeper_5 ⟨Nat.zero_le _, Nat.zero_le _⟩) hP hD hS hA (p_none _) (p_noneB _) (fun H locs hP hD hS => ?_)
  refine lv_if_eq (tgt := 20) hx hb dX6_keeper_8 (by decide) (fun q9 => absurd q9 (show ¬ (isw a 0 1439) = 0 from ha2)) (fun c_1 => ?_)
  refine lv_iload_n hx hb dX6_keeper_11 rfl (lv_at hl 2 rfl) ?_
  refine lv_iconst (v := 0) hx hb dX6_keeper_12 (by decide) ?_
  refine lv_iconst (v := 2) hx hb dX6_keeper_13 (by decide) ?_
  refine x_goI (wn := MW g o r) (x_rS (As := [.int b, .int 0, .int 2]) X (c_X6_in l g b 0 2 _) yf_X6_in ys_X6_in wM_X6_33 ⟨Nat.le_of_ble_eq_true rfl, Nat.le_of_ble_eq_true rfl⟩ hP hD (p_none _) hl rfl rfl (Nat.le_of_ble_eq_true rfl) dX6_keeper_14 ⟨Nat.zero_le _, Nat.zero_le _⟩) hP hD hS hA (p_none _) (p_noneB _) (fun H locs hP hD hS => ?_)
  refine lv_if_ne (tgt := 24) hx hb dX6_keeper_17 (by decide) (fun c_2 => ?_) (fun q9 => absurd (show (isw b 0 2) = 0 from q9) (show ¬ (isw b 0 2) = 0 from hq2))
  refine lv_aload_n hx hb dX6_keeper_24 rfl (lv_at hl 0 rfl) ?_
  refine lv_iload_n hx hb dX6_keeper_25 rfl (lv_at hl 1 rfl) ?_
  refine x_goI (wn := MW g o r) (x_rV (As := [.int a]) X (c_X6_onWatch l g o r cn hc hz h1 a  _) yf_X6_onWatch yi_X6_onWatch wM_X6_114 ⟨Nat.le_of_ble_eq_true rfl, Nat.le_of_ble_eq_true rfl⟩ hP hD (p_all _) 0 rfl rfl hl rfl rfl (Nat.le_of_ble_eq_true rfl) dX6_keeper_26 ⟨Nat.zero_le _, Nat.zero_le _⟩) hP hD hS hA (p_all _) (p_back _) (fun H locs hP hD hS => ?_)
  refine W.eq (g2 := F0 m 29 ls [.int (nI w)]) (by rw [hw2]) ?_
  refine lv_istore_n (lv' := [(3, .int (nI w)), (0, .ref (o 0)), (1, .int a), (2, .int b)]) hx hb dX6_keeper_29 rfl hl (by decide) rfl (fun ls hl => ?_)
  refine lv_iload_n hx hb dX6_keeper_30 rfl (lv_at hl 0 rfl) ?_
  refine lv_sipush (v := (-1000)) hx hb dX6_keeper_31 (by decide) ?_
  refine lv_icmp_ne (tgt := 41) hx hb dX6_keeper_34 (by decide) (fun c_3 => ?_) (fun q9 => absurd (show (nI w) = (-1000) from q9) (show ¬ (nI w) = (-1000) from (ne1000 (by omega))))
  refine lv_sipush (v := 1440) hx hb dX6_keeper_41 (by decide) ?_
  refine lv_istore (lv' := [(4, .int 1440), (3, .int (nI w)), (0, .ref (o 0)), (1, .int a), (2, .int b)]) hx hb dX6_keeper_44 hl (by decide) rfl (fun ls hl => ?_)
  refine lv_iconst (v := 0) hx hb dX6_keeper_46 (by decide) ?_
  refine lv_istore (lv' := [(5, .int 0), (4, .int 1440), (3, .int (nI w)), (0, .ref (o 0)), (1, .int a), (2, .int b)]) hx hb dX6_keeper_47 hl (by decide) rfl (fun ls hl => ?_)
  suffices LP49 : ∀ (n : Nat) (k : Nat) (u : Int32), k + n = cn → unL (mZ r) a w n k u = unL (mZ r) a w cn 0 1440 → ∀ (ls : Array Slot) (H : Heap) (locs : List Loc), va_P g.1 vwCl (MW g o r) H → va_D A (MW g o r) → va_S A s.heap H locs → lv_has ls 7 [(5, .int (nI k)), (4, .int u), (3, .int (nI w)), (2, .int b), (1, .int a), (0, .ref (o 0))] → W p l e (rmD 3) s m args below meth c H locs 0 0 (MQ below (QI g A (mKeeperW (mZ r) cn a b w) (MW g o r)) args s 0 0 A) (F0 m 49 ls []) from LP49 cn 0 1440 (Nat.zero_add cn) rfl ls _ _ hP hD hS (lv_sub hl [0, 1, 2, 5, 4, 3] rfl)
  intro n
  induction n with
  | zero =>
    intro k u hk2 ht ls H locs hP hD hS hl
    refine lv_iload hx hb dX6_keeper_49 (lv_at hl 0 rfl) ?_
    refine lv_aload_n hx hb dX6_keeper_51 rfl (lv_at hl 5 rfl) ?_
    refine x_get (v := .ref (o 1)) X 0 0 in_X6 hP rfl rfl (by decide) wF_X6_7 rfl rfl dX6_keeper_52 ?_
    refine lv_bipush (v := 7) hx hb dX6_keeper_55 (by decide) ?_
    refine x_iald (v := ((mZ r) 7)) X 1 7 hP rfl rfl (by decide) (Nat.le_of_ble_eq_true rfl) rfl dX6_keeper_57 ?_
    refine W.eq (g2 := F0 m 58 ls [.int (nI cn), .int (nI k)]) (by rw [hz]) ?_
    refine lv_icmp_ge (tgt := 107) hx hb dX6_keeper_58 (by decide) (fun c_4 => ?_) (fun q9 => absurd (show (nI cn) ≤ (nI k) from (nI_le (by omega) (by omega))) (show ¬ ((nI cn) ≤ (nI k)) from q9))
    refine lv_iload_n hx hb dX6_keeper_107 rfl (lv_at hl 3 rfl) ?_
    refine lv_if_ne (tgt := 119) hx hb dX6_keeper_108 (by decide) (fun (c_5 : ¬ b = 0) => ?_) (fun (c_5 : b = 0) => ?_)
    · refine lv_iload_n hx hb dX6_keeper_119 rfl (lv_at hl 3 rfl) ?_
      refine lv_iconst (v := 1) hx hb dX6_keeper_120 (by decide) ?_
      refine lv_icmp_ne (tgt := 132) hx hb dX6_keeper_121 (by decide) (fun (c_6 : ¬ b = 1) => ?_) (fun (c_6 : b = 1) => ?_)
      · refine lv_iload hx hb dX6_keeper_132 (lv_at hl 1 rfl) ?_
        exact x_iret X hr hlocks hP hD hS (by simp only [mKeeperW, if_neg c_5, if_neg c_6]; exact ht) dX6_keeper_134
      · refine lv_aload_n hx hb dX6_keeper_124 rfl (lv_at hl 5 rfl) ?_
        refine lv_iload_n hx hb dX6_keeper_125 rfl (lv_at hl 2 rfl) ?_
        refine x_goI (wn := MW g o r) (x_rV (As := [.int (nI w)]) X (c_X6_wrongOf l g o r w (by omega)  _) yf_X6_wrongOf yi_X6_wrongOf wM_X6_111 ⟨Nat.le_of_ble_eq_true rfl, Nat.le_of_ble_eq_true rfl⟩ hP hD (p_all _) 0 rfl rfl hl rfl rfl (Nat.le_of_ble_eq_true rfl) dX6_keeper_126 ⟨Nat.zero_le _, Nat.zero_le _⟩) hP hD hS hA (p_all _) (p_back _) (fun H locs hP hD hS => ?_)
        refine lv_goto (tgt := 134) hx hb dX6_keeper_129 (by decide) ?_
        exact x_iret X hr hlocks hP hD hS (by simp only [mKeeperW, if_neg c_5, if_pos c_6]) dX6_keeper_134
    · refine lv_aload_n hx hb dX6_keeper_111 rfl (lv_at hl 5 rfl) ?_
      refine lv_iload_n hx hb dX6_keeper_112 rfl (lv_at hl 2 rfl) ?_
      refine x_goI (wn := MW g o r) (x_rV (As := [.int (nI w)]) X (c_X6_startOf l g o r w (by omega)  _) yf_X6_startOf yi_X6_startOf wM_X6_96 ⟨Nat.le_of_ble_eq_true rfl, Nat.le_of_ble_eq_true rfl⟩ hP hD (p_all _) 0 rfl rfl hl rfl rfl (Nat.le_of_ble_eq_true rfl) dX6_keeper_113 ⟨Nat.zero_le _, Nat.zero_le _⟩) hP hD hS hA (p_all _) (p_back _) (fun H locs hP hD hS => ?_)
      refine lv_goto (tgt := 134) hx hb dX6_keeper_116 (by decide) ?_
      exact x_iret X hr hlocks hP hD hS (by simp only [mKeeperW, if_pos c_5]) dX6_keeper_134
  | succ n ih =>
    intro k u hk2 ht ls H locs hP hD hS hl
    refine lv_iload hx hb dX6_keeper_49 (lv_at hl 0 rfl) ?_
    refine lv_aload_n hx hb dX6_keeper_51 rfl (lv_at hl 5 rfl) ?_
    refine x_get (v := .ref (o 1)) X 0 0 in_X6 hP rfl rfl (by decide) wF_X6_7 rfl rfl dX6_keeper_52 ?_
    refine lv_bipush (v := 7) hx hb dX6_keeper_55 (by decide) ?_
    refine x_iald (v := ((mZ r) 7)) X 1 7 hP rfl rfl (by decide) (Nat.le_of_ble_eq_true rfl) rfl dX6_keeper_57 ?_
    refine W.eq (g2 := F0 m 58 ls [.int (nI cn), .int (nI k)]) (by rw [hz]) ?_
    refine lv_icmp_ge (tgt := 107) hx hb dX6_keeper_58 (by decide) (fun q9 => absurd q9 (show ¬ (nI cn) ≤ (nI k) from (nI_ge (by omega) (by omega)))) (fun c_7 => ?_)
    refine lv_aload_n hx hb dX6_keeper_61 rfl (lv_at hl 5 rfl) ?_
    refine lv_iload hx hb dX6_keeper_62 (lv_at hl 0 rfl) ?_
    refine x_goI (wn := MW g o r) (x_rV (As := [.int (nI k)]) X (c_X6_startOf l g o r k (by omega)  _) yf_X6_startOf yi_X6_startOf wM_X6_96 ⟨Nat.le_of_ble_eq_true rfl, Nat.le_of_ble_eq_true rfl⟩ hP hD (p_all _) 0 rfl rfl hl rfl rfl (Nat.le_of_ble_eq_true rfl) dX6_keeper_64 ⟨Nat.zero_le _, Nat.zero_le _⟩) hP hD hS hA (p_all _) (p_back _) (fun H locs hP hD hS => ?_)
    refine lv_iload_n hx hb dX6_keeper_67 rfl (lv_at hl 4 rfl) ?_
    refine lv_isub hx hb dX6_keeper_68 ?_
    refine lv_sipush (v := 1440) hx hb dX6_keeper_69 (by decide) ?_
    refine lv_iadd hx hb dX6_keeper_72 ?_
    refine lv_sipush (v := 1440) hx hb dX6_keeper_73 (by decide) ?_
    refine lv_irem hx hb dX6_keeper_76 (by decide) ?_
    refine lv_istore (lv' := [(6, .int (jrem ((((mZ r) (36 + 2 * k)) - a) + 1440) 1440)), (5, .int (nI k)), (4, .int u), (3, .int (nI w)), (2, .int b), (1, .int a), (0, .ref (o 0))]) hx hb dX6_keeper_77 hl (by decide) rfl (fun ls hl => ?_)
    refine lv_iload hx hb dX6_keeper_79 (lv_at hl 1 rfl) ?_
    refine lv_iload_n hx hb dX6_keeper_81 rfl (lv_at hl 3 rfl) ?_
    refine lv_icmp_eq (tgt := 97) hx hb dX6_keeper_82 (by decide) (fun (c_8 : (nI k) = (nI w)) => ?_) (fun (c_8 : ¬ (nI k) = (nI w)) => ?_)
    · refine lv_iload hx hb dX6_keeper_97 (lv_at hl 2 rfl) ?_
      refine lv_istore (lv' := [(4, .int u), (6, .int (jrem ((((mZ r) (36 + 2 * k)) - a) + 1440) 1440)), (5, .int (nI k)), (3, .int (nI w)), (2, .int b), (1, .int a), (0, .ref (o 0))]) hx hb dX6_keeper_99 hl (by decide) rfl (fun ls hl => ?_)
      refine lv_iinc (v := (nI (k + 1))) (lv' := [(5, .int (nI (k + 1))), (4, .int u), (6, .int (jrem ((((mZ r) (36 + 2 * k)) - a) + 1440) 1440)), (3, .int (nI w)), (2, .int b), (1, .int a), (0, .ref (o 0))]) hx hb dX6_keeper_101 hl (k := 2) rfl (nI_1 _) (by decide) rfl (fun ls hl => ?_)
      refine lv_goto (tgt := 49) hx hb dX6_keeper_104 (by decide) ?_
      exact ih (k + 1) u (by omega) (by rw [← ht]; simp only [unL, if_pos c_8]) ls _ _ hP hD hS (lv_sub hl [0, 1, 3, 4, 5, 6] rfl)
    · refine lv_iload hx hb dX6_keeper_85 (lv_at hl 0 rfl) ?_
      refine lv_iload hx hb dX6_keeper_87 (lv_at hl 2 rfl) ?_
      refine lv_icmp_ge (tgt := 97) hx hb dX6_keeper_89 (by decide) (fun (c_9 : u ≤ (jrem ((((mZ r) (36 + 2 * k)) - a) + 1440) 1440)) => ?_) (fun (c_9 : ¬ u ≤ (jrem ((((mZ r) (36 + 2 * k)) - a) + 1440) 1440)) => ?_)
      · refine lv_iload hx hb dX6_keeper_97 (lv_at hl 2 rfl) ?_
        refine lv_istore (lv' := [(4, .int u), (6, .int (jrem ((((mZ r) (36 + 2 * k)) - a) + 1440) 1440)), (5, .int (nI k)), (3, .int (nI w)), (2, .int b), (1, .int a), (0, .ref (o 0))]) hx hb dX6_keeper_99 hl (by decide) rfl (fun ls hl => ?_)
        refine lv_iinc (v := (nI (k + 1))) (lv' := [(5, .int (nI (k + 1))), (4, .int u), (6, .int (jrem ((((mZ r) (36 + 2 * k)) - a) + 1440) 1440)), (3, .int (nI w)), (2, .int b), (1, .int a), (0, .ref (o 0))]) hx hb dX6_keeper_101 hl (k := 2) rfl (nI_1 _) (by decide) rfl (fun ls hl => ?_)
        refine lv_goto (tgt := 49) hx hb dX6_keeper_104 (by decide) ?_
        exact ih (k + 1) u (by omega) (by rw [← ht]; simp only [unL, if_neg c_8, if_pos c_9]) ls _ _ hP hD hS (lv_sub hl [0, 1, 3, 4, 5, 6] rfl)
      · refine lv_iload hx hb dX6_keeper_92 (lv_at hl 0 rfl) ?_
        refine lv_goto (tgt := 99) hx hb dX6_keeper_94 (by decide) ?_
        refine lv_istore (lv' := [(4, .int (jrem ((((mZ r) (36 + 2 * k)) - a) + 1440) 1440)), (6, .int (jrem ((((mZ r) (36 + 2 * k)) - a) + 1440) 1440)), (5, .int (nI k)), (3, .int (nI w)), (2, .int b), (1, .int a), (0, .ref (o 0))]) hx hb dX6_keeper_99 hl (by decide) rfl (fun ls hl => ?_)
        refine lv_iinc (v := (nI (k + 1))) (lv' := [(5, .int (nI (k + 1))), (4, .int (jrem ((((mZ r) (36 + 2 * k)) - a) + 1440) 1440)), (6, .int (jrem ((((mZ r) (36 + 2 * k)) - a) + 1440) 1440)), (3, .int (nI w)), (2, .int b), (1, .int a), (0, .ref (o 0))]) hx hb dX6_keeper_101 hl (k := 2) rfl (nI_1 _) (by decide) rfl (fun ls hl => ?_)
        refine lv_goto (tgt := 49) hx hb dX6_keeper_104 (by decide) ?_
        exact ih (k + 1) (jrem ((((mZ r) (36 + 2 * k)) - a) + 1440) 1440) (by omega) (by rw [← ht]; simp only [unL, if_neg c_8, if_neg c_9]) ls _ _ hP hD hS (lv_sub hl [0, 1, 3, 4, 5, 6] rfl)

theorem c_X6_keeper (l : Launch) (g : wG) (o : Nat → Nat) (r : MS) (cn : Nat) (hc : cn ≤ 6) (hz : mZ r 7 = nI cn) (a b : Int32) : CtI l g 3 yX6_keeper cX6_keeper 7 (some .int) [.ref (o 0), .int a, .int b] (MW g o r) (mKeeper r cn a b) (MW g o r) := by
  by_cases ha : isw a 0 1439 = 0
  · exact c_X6_keeper_a l g o r a b ha cn
  · by_cases hq : isw b 0 2 = 0
    · exact c_X6_keeper_b l g o r a b ha hq cn
    · rcases Nat.eq_zero_or_pos cn with h0 | h1
      · exact c_X6_keeper_0 l g o r a b ha hq (by rw [hz, h0]) cn
      · have hn : ¬ mZ r 7 = 0 := by rw [hz]; exact nI_ne0 h1 (by omega)
        have e : mKeeper r cn a b = mKeeperW (mZ r) cn a b (owN (mZ r) a cn) := by simp only [mKeeper, if_neg ha, if_neg hq, if_neg hn]
        rw [e]
        exact c_X6_keeper_o l g o r cn hc hz h1 a b ha hq _ (owN_lt _ _ h1) rfl
def mSpreadIn (r : MS) (cn : Nat) (a : Int32) : Int32 × MS := if isw a 0 2000 = 0 then (-1002, r) else (spM (pmsM cn a.toNatClampNeg (mZ r) 0).1, mas r)
set_option maxHeartbeats 4000000 in
set_option maxRecDepth 100000 in
theorem c_X6_spreadIn_e (l : Launch) (g : wG) (o : Nat → Nat) (r : MS) (hm5 : mM r ≤ 5) (cn : Nat) (hc : cn ≤ 6) (hz : mZ r 7 = nI cn) (a : Int32) (hi : isw a 0 2000 = 0) : CtI l g 6 yX6_spreadIn cX6_spreadIn 3 (some .int) [.ref (o 0), .int a] (MW g o r) ((mSpreadIn r cn a).1) (MW g o (mSpreadIn r cn a).2) := by
  intro sz
  refine x_enter (Qc := fun A => QI g A ((mSpreadIn r cn a).1) (MW g o (mSpreadIn r cn a).2)) (by decide) (Nat.le_of_ble_eq_true rfl) ?_
  intro p e s m args below meth c X hr hlocks A hA hP hD hS ls hl
  obtain ⟨⟨hx, hb, hml, hown, hts⟩, hK, hN⟩ := id X
  have hl : lv_has ls 3 [(0, .ref (o 0)), (1, .int a)] := hl
  refine lv_iload_n hx hb dX6_spreadIn_0 rfl (lv_at hl 1 rfl) ?_
  refine lv_iconst (v := 0) hx hb dX6_spreadIn_1 (by decide) ?_
  refine lv_sipush (v := 2000) hx hb dX6_spreadIn_2 (by decide) ?_
  refine x_goI (wn := MW g o r) (x_rS (As := [.int a, .int 0, .int 2000]) X (c_X6_in l g a 0 2000 _) yf_X6_in ys_X6_in wM_X6_33 ⟨Nat.le_of_ble_eq_true rfl, Nat.le_of_ble_eq_true rfl⟩ hP hD (p_none _) hl rfl rfl (Nat.le_of_ble_eq_true rfl) dX6_spreadIn_5 ⟨Nat.zero_le _, Nat.zero_le _⟩) hP hD hS hA (p_none _) (p_noneB _) (fun H locs hP hD hS => ?_)
  refine lv_if_ne (tgt := 15) hx hb dX6_spreadIn_8 (by decide) (fun q9 => absurd (show (isw a 0 2000) = 0 from hi) q9) (fun c_1 => ?_)
  refine lv_sipush (v := (-1002)) hx hb dX6_spreadIn_11 (by decide) ?_
  have E : (MW g o r : va_W) = MW g o (mSpreadIn r cn a).2 := by (simp only [mSpreadIn, if_pos hi]) <;> rfl
  exact x_iret X hr hlocks (pw E hP) (dw E hD) hS (by (simp only [mSpreadIn, if_pos hi]) <;> rfl) dX6_spreadIn_14

set_option maxHeartbeats 4000000 in
set_option maxRecDepth 100000 in
theorem c_X6_spreadIn_o (l : Launch) (g : wG) (o : Nat → Nat) (r : MS) (hm5 : mM r ≤ 5) (cn : Nat) (hc : cn ≤ 6) (hz : mZ r 7 = nI cn) (mn : Nat) (hm : mn < 2 ^ 31) (hi : ¬ isw (nI mn) 0 2000 = 0) : CtI l g 6 yX6_spreadIn cX6_spreadIn 3 (some .int) [.ref (o 0), .int (nI mn)] (MW g o r) ((mSpreadIn r cn (nI mn)).1) (MW g o (mSpreadIn r cn (nI mn)).2) := by
  intro sz
  refine x_enter (Qc := fun A => QI g A ((mSpreadIn r cn (nI mn)).1) (MW g o (mSpreadIn r cn (nI mn)).2)) (by decide) (Nat.le_of_ble_eq_true rfl) ?_
  intro p e s m args below meth c X hr hlocks A hA hP hD hS ls hl
  obtain ⟨⟨hx, hb, hml, hown, hts⟩, hK, hN⟩ := id X
  have hl : lv_has ls 3 [(0, .ref (o 0)), (1, .int (nI mn))] := hl
  have hmn : (nI mn).toNatClampNeg = mn := nI_clamp hm
  refine lv_iload_n hx hb dX6_spreadIn_0 rfl (lv_at hl 1 rfl) ?_
  refine lv_iconst (v := 0) hx hb dX6_spreadIn_1 (by decide) ?_
  refine lv_sipush (v := 2000) hx hb dX6_spreadIn_2 (by decide) ?_
  refine x_goI (wn := MW g o r) (x_rS (As := [.int (nI mn), .int 0, .int 2000]) X (c_X6_in l g (nI mn) 0 2000 _) yf_X6_in ys_X6_in wM_X6_33 ⟨Nat.le_of_ble_eq_true rfl, Nat.le_of_ble_eq_true rfl⟩ hP hD (p_none _) hl rfl rfl (Nat.le_of_ble_eq_true rfl) dX6_spreadIn_5 ⟨Nat.zero_le _, Nat.zero_le _⟩) hP hD hS hA (p_none _) (p_noneB _) (fun H locs hP hD hS => ?_)
  refine lv_if_ne (tgt := 15) hx hb dX6_spreadIn_8 (by decide) (fun c_1 => ?_) (fun q9 => absurd (show (isw (nI mn) 0 2000) = 0 from q9) (show ¬ (isw (nI mn) 0 2000) = 0 from hi))
  refine lv_aload_n hx hb dX6_spreadIn_15 rfl (lv_at hl 0 rfl) ?_
  refine x_goV (wn := MW g o ((mZ r), (mP r), (mK r), (mZ r), (mB r), (mO r), (mM r), (mI r), (mY r), (mT r), (mS r), (mW r))) (x_rV (As := []) X (c_X6_putAside l g o r   _) yf_X6_putAside yi_X6_putAside wM_X6_126 ⟨Nat.le_of_ble_eq_true rfl, Nat.le_of_ble_eq_true rfl⟩ hP hD (p_all _) 0 rfl rfl hl rfl rfl (Nat.le_of_ble_eq_true rfl) dX6_spreadIn_16 ⟨Nat.zero_le _, Nat.zero_le _⟩) hP hD hS hA (p_all _) (p_back _) (fun H locs hP hD hS => ?_)
  refine lv_aload_n hx hb dX6_spreadIn_19 rfl (lv_at hl 0 rfl) ?_
  refine lv_iload_n hx hb dX6_spreadIn_20 rfl (lv_at hl 1 rfl) ?_
  refine x_goI (wn := MW g o (((pmsM cn mn (mZ r) 0).1), (mP r), (mK r), (mZ r), (mB r), (mO r), (mM r), (mI r), (mY r), (mT r), (mS r), (mW r))) (x_rV (As := [.int (nI mn)]) X (c_X6_passes l g o ((mZ r), (mP r), (mK r), (mZ r), (mB r), (mO r), (mM r), (mI r), (mY r), (mT r), (mS r), (mW r)) cn hc hz mn hm  _) yf_X6_passes yi_X6_passes wM_X6_93 ⟨Nat.le_of_ble_eq_true rfl, Nat.le_of_ble_eq_true rfl⟩ hP hD (p_all _) 0 rfl rfl hl rfl rfl (Nat.le_of_ble_eq_true rfl) dX6_spreadIn_21 ⟨Nat.zero_le _, Nat.zero_le _⟩) hP hD hS hA (p_all _) (p_back _) (fun H locs hP hD hS => ?_)
  refine lv_pop hx hb dX6_spreadIn_24 rfl ?_
  refine lv_aload_n hx hb dX6_spreadIn_25 rfl (lv_at hl 0 rfl) ?_
  refine x_goI (wn := MW g o (((pmsM cn mn (mZ r) 0).1), (mP r), (mK r), (mZ r), (mB r), (mO r), (mM r), (mI r), (mY r), (mT r), (mS r), (mW r))) (x_rV (As := []) X (c_X6_spread l g o (((pmsM cn mn (mZ r) 0).1), (mP r), (mK r), (mZ r), (mB r), (mO r), (mM r), (mI r), (mY r), (mT r), (mS r), (mW r))   _) yf_X6_spread yi_X6_spread wM_X6_123 ⟨Nat.le_of_ble_eq_true rfl, Nat.le_of_ble_eq_true rfl⟩ hP hD (p_all _) 0 rfl rfl hl rfl rfl (Nat.le_of_ble_eq_true rfl) dX6_spreadIn_26 ⟨Nat.zero_le _, Nat.zero_le _⟩) hP hD hS hA (p_all _) (p_back _) (fun H locs hP hD hS => ?_)
  refine lv_istore_n (lv' := [(2, .int (spM ((pmsM cn mn (mZ r) 0).1))), (0, .ref (o 0)), (1, .int (nI mn))]) hx hb dX6_spreadIn_29 rfl hl (by decide) rfl (fun ls hl => ?_)
  refine lv_aload_n hx hb dX6_spreadIn_30 rfl (lv_at hl 1 rfl) ?_
  refine x_goV (wn := MW g o ((mZ r), (mP r), (mK r), (mZ r), (mB r), (mO r), (mM r), (mI r), (mY r), (mT r), (mS r), (mW r))) (x_rV (As := []) X (c_X6_takeBack l g o (((pmsM cn mn (mZ r) 0).1), (mP r), (mK r), (mZ r), (mB r), (mO r), (mM r), (mI r), (mY r), (mT r), (mS r), (mW r))   _) yf_X6_takeBack yi_X6_takeBack wM_X6_129 ⟨Nat.le_of_ble_eq_true rfl, Nat.le_of_ble_eq_true rfl⟩ hP hD (p_all _) 0 rfl rfl hl rfl rfl (Nat.le_of_ble_eq_true rfl) dX6_spreadIn_31 ⟨Nat.zero_le _, Nat.zero_le _⟩) hP hD hS hA (p_all _) (p_back _) (fun H locs hP hD hS => ?_)
  refine lv_iload_n hx hb dX6_spreadIn_34 rfl (lv_at hl 0 rfl) ?_
  have E : (MW g o ((mZ r), (mP r), (mK r), (mZ r), (mB r), (mO r), (mM r), (mI r), (mY r), (mT r), (mS r), (mW r)) : va_W) = MW g o (mSpreadIn r cn (nI mn)).2 := by (simp only [mSpreadIn, if_neg hi, hmn]) <;> rfl
  exact x_iret X hr hlocks (pw E hP) (dw E hD) hS (by (simp only [mSpreadIn, if_neg hi, hmn]) <;> rfl) dX6_spreadIn_35

theorem c_X6_spreadIn (l : Launch) (g : wG) (o : Nat → Nat) (r : MS) (hm5 : mM r ≤ 5) (cn : Nat) (hc : cn ≤ 6) (hz : mZ r 7 = nI cn) (a : Int32) : CtI l g 6 yX6_spreadIn cX6_spreadIn 3 (some .int) [.ref (o 0), .int a] (MW g o r) ((mSpreadIn r cn a).1) (MW g o (mSpreadIn r cn a).2) := by
  by_cases hi : isw a 0 2000 = 0
  · exact c_X6_spreadIn_e l g o r hm5 cn hc hz a hi
  · obtain ⟨k, hk, rfl⟩ := isw_nI (n := 2000) (by decide) hi
    exact c_X6_spreadIn_o l g o r hm5 cn hc hz k (by omega) hi
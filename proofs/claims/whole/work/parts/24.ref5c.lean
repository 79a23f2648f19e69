def dfM (z : RI) : Int32 := (((0 + distM (z 8) (jrem (z 0) 720)) + distM (z 15) (jrem (z 0) 720)) + distM (z 22) (jrem (z 0) 720)) + distM (z 29) (jrem (z 0) 720)
def mboF (r : MS) (cn mn k : Nat) : RI := (pmsM cn mn (oilM (8 + 7 * k) (mZ r)) 0).1
def boM (r : MS) (cn mn : Nat) : Nat → Nat → Int32 → Int32 → Int32
  | 0, _, b, _ => b
  | n + 1, k, b, u => if u ≤ dfM (mboF r cn mn k) then boM r cn mn n (k + 1) b u else boM r cn mn n (k + 1) (nI k) (dfM (mboF r cn mn k))
def mBestOiln (r : MS) (cn mn : Nat) : Int32 := boM r cn mn 3 1 0 (dfM (mboF r cn mn 0))
theorem oilM_7 (q : Nat) (z : RI) (h : 8 ≤ q) : oilM q z 7 = z 7 := by
  unfold oilM upd
  rw [if_neg (by omega), if_neg (by omega)]
set_option maxHeartbeats 4000000 in
set_option maxRecDepth 100000 in
theorem c_X6_bestOiln (l : Launch) (g : wG) (o : Nat → Nat) (r : MS) (hm5 : mM r ≤ 5) (cn : Nat) (hc : cn ≤ 6) (hz : mZ r 7 = nI cn) (mn : Nat) (hm : mn < 2 ^ 31) (h14 : 1440 = nI mn) : CtI l g 6 yX6_bestOil cX6_bestOil 6 (some .int) [.ref (o 0)] (MW g o r) (mBestOiln r cn mn) (MW g o (mas r)) := by
  intro sz
  refine x_enter (Qc := fun A => QI g A (mBestOiln r cn mn) (MW g o (mas r))) (by decide) (Nat.le_of_ble_eq_true rfl) ?_
  intro p e s m args below meth c X hr hlocks A hA hP hD hS ls hl
  obtain ⟨⟨hx, hb, hml, hown, hts⟩, hK, hN⟩ := id X
  have hl : lv_has ls 6 [(0, .ref (o 0))] := hl
  refine lv_iconst (v := 0) hx hb dX6_bestOil_0 (by decide) ?_
  refine lv_istore_n (lv' := [(1, .int 0), (0, .ref (o 0))]) hx hb dX6_bestOil_1 rfl hl (by decide) rfl (fun ls hl => ?_)
  refine lv_iconst (v := 0) hx hb dX6_bestOil_2 (by decide) ?_
  refine lv_istore_n (lv' := [(2, .int 0), (1, .int 0), (0, .ref (o 0))]) hx hb dX6_bestOil_3 rfl hl (by decide) rfl (fun ls hl => ?_)
  refine lv_iconst (v := 0) hx hb dX6_bestOil_4 (by decide) ?_
  refine lv_istore_n (lv' := [(3, .int 0), (2, .int 0), (1, .int 0), (0, .ref (o 0))]) hx hb dX6_bestOil_5 rfl hl (by decide) rfl (fun ls hl => ?_)
  have L6_4 : ∀ b u : Int32, boM r cn mn 0 4 b u = mBestOiln r cn mn → ∀ (ls : Array Slot) (H : Heap) (locs : List Loc), va_P g.1 vwCl (MW g o ((mZ r), (mP r), (mK r), (mZ r), (mB r), (mO r), (mM r), (mI r), (mY r), (mT r), (mS r), (mW r))) H → va_D A (MW g o ((mZ r), (mP r), (mK r), (mZ r), (mB r), (mO r), (mM r), (mI r), (mY r), (mT r), (mS r), (mW r))) → va_S A s.heap H locs → lv_has ls 6 [(3, .int 4), (2, .int u), (1, .int b), (0, .ref (o 0))] → W p l e (rmD 6) s m args below meth c H locs 0 0 (MQ below (QI g A (mBestOiln r cn mn) (MW g o (mas r))) args s 0 0 A) (F0 m 6 ls []) := by
    intro b u ht ls H locs hP hD hS hl
    refine lv_iload_n hx hb dX6_bestOil_6 rfl (lv_at hl 0 rfl) ?_
    refine lv_iconst (v := 4) hx hb dX6_bestOil_7 (by decide) ?_
    refine lv_icmp_ge (tgt := 115) hx hb dX6_bestOil_8 (by decide) (fun c_1 => ?_) (fun q9 => absurd (show (4 : Int32) ≤ (4 : Int32) from (by decide)) (show ¬ ((4 : Int32) ≤ (4 : Int32)) from q9))
    refine lv_iload_n hx hb dX6_bestOil_115 rfl (lv_at hl 2 rfl) ?_
    have E : (MW g o ((mZ r), (mP r), (mK r), (mZ r), (mB r), (mO r), (mM r), (mI r), (mY r), (mT r), (mS r), (mW r)) : va_W) = MW g o (mas r) := rfl
    exact x_iret X hr hlocks (pw E hP) (dw E hD) hS ht dX6_bestOil_116
  have L6_3 : ∀ b u : Int32, boM r cn mn 1 3 b u = mBestOiln r cn mn → ∀ (ls : Array Slot) (H : Heap) (locs : List Loc), va_P g.1 vwCl (MW g o ((mZ r), (mP r), (mK r), (mZ r), (mB r), (mO r), (mM r), (mI r), (mY r), (mT r), (mS r), (mW r))) H → va_D A (MW g o ((mZ r), (mP r), (mK r), (mZ r), (mB r), (mO r), (mM r), (mI r), (mY r), (mT r), (mS r), (mW r))) → va_S A s.heap H locs → lv_has ls 6 [(3, .int 3), (2, .int u), (1, .int b), (0, .ref (o 0))] → W p l e (rmD 6) s m args below meth c H locs 0 0 (MQ below (QI g A (mBestOiln r cn mn) (MW g o (mas r))) args s 0 0 A) (F0 m 6 ls []) := by
    intro b u ht ls H locs hP hD hS hl
    refine lv_iload_n hx hb dX6_bestOil_6 rfl (lv_at hl 0 rfl) ?_
    refine lv_iconst (v := 4) hx hb dX6_bestOil_7 (by decide) ?_
    refine lv_icmp_ge (tgt := 115) hx hb dX6_bestOil_8 (by decide) (fun q9 => absurd q9 (show ¬ (4 : Int32) ≤ (3 : Int32) from (by decide))) (fun c_2 => ?_)
    refine lv_aload_n hx hb dX6_bestOil_11 rfl (lv_at hl 3 rfl) ?_
    refine x_goV (wn := MW g o ((mZ r), (mP r), (mK r), (mZ r), (mB r), (mO r), (mM r), (mI r), (mY r), (mT r), (mS r), (mW r))) (x_rV (As := []) X (c_X6_putAside l g o ((mZ r), (mP r), (mK r), (mZ r), (mB r), (mO r), (mM r), (mI r), (mY r), (mT r), (mS r), (mW r))   _) yf_X6_putAside yi_X6_putAside wM_X6_126 ⟨Nat.le_of_ble_eq_true rfl, Nat.le_of_ble_eq_true rfl⟩ hP hD (p_all _) 0 rfl rfl hl rfl rfl (Nat.le_of_ble_eq_true rfl) dX6_bestOil_12 ⟨Nat.zero_le _, Nat.zero_le _⟩) hP hD hS hA (p_all _) (p_back _) (fun H locs hP hD hS => ?_)
    refine lv_aload_n hx hb dX6_bestOil_15 rfl (lv_at hl 3 rfl) ?_
    refine lv_iload_n hx hb dX6_bestOil_16 rfl (lv_at hl 0 rfl) ?_
    refine x_goI (wn := MW g o ((oilM 29 (mZ r)), (mP r), (mK r), (mZ r), (mB r), (mO r), (mM r), (mI r), (mY r), (mT r), (mS r), (mW r))) (x_rV (As := [.int 3]) X (c_X6_oils_3 l g o ((mZ r), (mP r), (mK r), (mZ r), (mB r), (mO r), (mM r), (mI r), (mY r), (mT r), (mS r), (mW r))   _) yf_X6_oils yi_X6_oils wM_X6_60 ⟨Nat.le_of_ble_eq_true rfl, Nat.le_of_ble_eq_true rfl⟩ hP hD (p_all _) 0 rfl rfl hl rfl rfl (Nat.le_of_ble_eq_true rfl) dX6_bestOil_17 ⟨Nat.zero_le _, Nat.zero_le _⟩) hP hD hS hA (p_all _) (p_back _) (fun H locs hP hD hS => ?_)
    refine lv_pop hx hb dX6_bestOil_20 rfl ?_
    refine lv_aload_n hx hb dX6_bestOil_21 rfl (lv_at hl 3 rfl) ?_
    refine lv_sipush (v := 1440) hx hb dX6_bestOil_22 (by decide) ?_
    refine W.eq (g2 := F0 m 25 ls [.int (nI mn), .ref (o 0)]) (by rw [h14]) ?_
    refine x_goI (wn := MW g o (((pmsM cn mn (oilM 29 (mZ r)) 0).1), (mP r), (mK r), (mZ r), (mB r), (mO r), (mM r), (mI r), (mY r), (mT r), (mS r), (mW r))) (x_rV (As := [.int (nI mn)]) X (c_X6_passes l g o ((oilM 29 (mZ r)), (mP r), (mK r), (mZ r), (mB r), (mO r), (mM r), (mI r), (mY r), (mT r), (mS r), (mW r)) cn hc ((oilM_7 29 (mZ r) (by decide)).trans hz) mn hm  _) yf_X6_passes yi_X6_passes wM_X6_93 ⟨Nat.le_of_ble_eq_true rfl, Nat.le_of_ble_eq_true rfl⟩ hP hD (p_all _) 0 rfl rfl hl rfl rfl (Nat.le_of_ble_eq_true rfl) dX6_bestOil_25 ⟨Nat.zero_le _, Nat.zero_le _⟩) hP hD hS hA (p_all _) (p_back _) (fun H locs hP hD hS => ?_)
    refine lv_pop hx hb dX6_bestOil_28 rfl ?_
    refine lv_iconst (v := 0) hx hb dX6_bestOil_29 (by decide) ?_
    refine lv_istore (lv' := [(4, .int 0), (3, .int 3), (2, .int u), (1, .int b), (0, .ref (o 0))]) hx hb dX6_bestOil_30 hl (by decide) rfl (fun ls hl => ?_)
    have hP : va_P g.1 vwCl (MW g o ((mboF r cn mn 3), (mP r), (mK r), (mZ r), (mB r), (mO r), (mM r), (mI r), (mY r), (mT r), (mS r), (mW r))) H := hP
    have hD : va_D A (MW g o ((mboF r cn mn 3), (mP r), (mK r), (mZ r), (mB r), (mO r), (mM r), (mI r), (mY r), (mT r), (mS r), (mW r))) := hD
    refine lv_iconst (v := 0) hx hb dX6_bestOil_32 (by decide) ?_
    refine lv_istore (lv' := [(5, .int 0), (4, .int 0), (3, .int 3), (2, .int u), (1, .int b), (0, .ref (o 0))]) hx hb dX6_bestOil_33 hl (by decide) rfl (fun ls hl => ?_)
    refine lv_iload hx hb dX6_bestOil_35 (lv_at hl 0 rfl) ?_
    refine lv_iconst (v := 4) hx hb dX6_bestOil_37 (by decide) ?_
    refine lv_icmp_ge (tgt := 72) hx hb dX6_bestOil_38 (by decide) (fun q9 => absurd q9 (show ¬ (4 : Int32) ≤ (0 : Int32) from (by decide))) (fun c_3 => ?_)
    refine lv_iload hx hb dX6_bestOil_41 (lv_at hl 1 rfl) ?_
    refine lv_aload_n hx hb dX6_bestOil_43 rfl (lv_at hl 5 rfl) ?_
    refine lv_iload hx hb dX6_bestOil_44 (lv_at hl 0 rfl) ?_
    refine lv_iconst (v := 0) hx hb dX6_bestOil_46 (by decide) ?_
    refine x_goI (wn := MW g o ((mboF r cn mn 3), (mP r), (mK r), (mZ r), (mB r), (mO r), (mM r), (mI r), (mY r), (mT r), (mS r), (mW r))) (x_rV (As := [.int 0, .int 0]) X (c_X6_of l g o ((mboF r cn mn 3), (mP r), (mK r), (mZ r), (mB r), (mO r), (mM r), (mI r), (mY r), (mT r), (mS r), (mW r)) 0 0 (by decide) (by decide)  _) yf_X6_of yi_X6_of wM_X6_56 ⟨Nat.le_of_ble_eq_true rfl, Nat.le_of_ble_eq_true rfl⟩ hP hD (p_all _) 0 rfl rfl hl rfl rfl (Nat.le_of_ble_eq_true rfl) dX6_bestOil_47 ⟨Nat.zero_le _, Nat.zero_le _⟩) hP hD hS hA (p_all _) (p_back _) (fun H locs hP hD hS => ?_)
    refine lv_aload_n hx hb dX6_bestOil_50 rfl (lv_at hl 5 rfl) ?_
    refine x_get (v := .ref (o 1)) X 0 0 in_X6 hP rfl rfl (by decide) wF_X6_7 rfl rfl dX6_bestOil_51 ?_
    refine lv_iconst (v := 0) hx hb dX6_bestOil_54 (by decide) ?_
    refine x_iald (v := ((mboF r cn mn 3) 0)) X 1 0 hP rfl rfl (by decide) (Nat.le_of_ble_eq_true rfl) rfl dX6_bestOil_55 ?_
    refine lv_sipush (v := 720) hx hb dX6_bestOil_56 (by decide) ?_
    refine lv_irem hx hb dX6_bestOil_59 (by decide) ?_
    refine x_goI (wn := MW g o ((mboF r cn mn 3), (mP r), (mK r), (mZ r), (mB r), (mO r), (mM r), (mI r), (mY r), (mT r), (mS r), (mW r))) (x_rS (As := [.int ((mboF r cn mn 3) 8), .int (jrem ((mboF r cn mn 3) 0) 720)]) X (c_X6_distance l g ((mboF r cn mn 3) 8) (jrem ((mboF r cn mn 3) 0) 720) _) yf_X6_distance ys_X6_distance wM_X6_64 ⟨Nat.le_of_ble_eq_true rfl, Nat.le_of_ble_eq_true rfl⟩ hP hD (p_none _) hl rfl rfl (Nat.le_of_ble_eq_true rfl) dX6_bestOil_60 ⟨Nat.zero_le _, Nat.zero_le _⟩) hP hD hS hA (p_none _) (p_noneB _) (fun H locs hP hD hS => ?_)
    refine lv_iadd hx hb dX6_bestOil_63 ?_
    refine lv_istore (lv' := [(4, .int (0 + (distM ((mboF r cn mn 3) 8) (jrem ((mboF r cn mn 3) 0) 720)))), (5, .int 0), (3, .int 3), (2, .int u), (1, .int b), (0, .ref (o 0))]) hx hb dX6_bestOil_64 hl (by decide) rfl (fun ls hl => ?_)
    refine lv_iinc (v := 1) (lv' := [(5, .int 1), (4, .int (0 + (distM ((mboF r cn mn 3) 8) (jrem ((mboF r cn mn 3) 0) 720)))), (3, .int 3), (2, .int u), (1, .int b), (0, .ref (o 0))]) hx hb dX6_bestOil_66 hl (k := 1) rfl rfl (by decide) rfl (fun ls hl => ?_)
    refine lv_goto (tgt := 35) hx hb dX6_bestOil_69 (by decide) ?_
    refine lv_iload hx hb dX6_bestOil_35 (lv_at hl 0 rfl) ?_
    refine lv_iconst (v := 4) hx hb dX6_bestOil_37 (by decide) ?_
    refine lv_icmp_ge (tgt := 72) hx hb dX6_bestOil_38 (by decide) (fun q9 => absurd q9 (show ¬ (4 : Int32) ≤ (1 : Int32) from (by decide))) (fun c_4 => ?_)
    refine lv_iload hx hb dX6_bestOil_41 (lv_at hl 1 rfl) ?_
    refine lv_aload_n hx hb dX6_bestOil_43 rfl (lv_at hl 5 rfl) ?_
    refine lv_iload hx hb dX6_bestOil_44 (lv_at hl 0 rfl) ?_
    refine lv_iconst (v := 0) hx hb dX6_bestOil_46 (by decide) ?_
    refine x_goI (wn := MW g o ((mboF r cn mn 3), (mP r), (mK r), (mZ r), (mB r), (mO r), (mM r), (mI r), (mY r), (mT r), (mS r), (mW r))) (x_rV (As := [.int 1, .int 0]) X (c_X6_of l g o ((mboF r cn mn 3), (mP r), (mK r), (mZ r), (mB r), (mO r), (mM r), (mI r), (mY r), (mT r), (mS r), (mW r)) 1 0 (by decide) (by decide)  _) yf_X6_of yi_X6_of wM_X6_56 ⟨Nat.le_of_ble_eq_true rfl, Nat.le_of_ble_eq_true rfl⟩ hP hD (p_all _) 0 rfl rfl hl rfl rfl (Nat.le_of_ble_eq_true rfl) dX6_bestOil_47 ⟨Nat.zero_le _, Nat.zero_le _⟩) hP hD hS hA (p_all _) (p_back _) (fun H locs hP hD hS => ?_)
    refine lv_aload_n hx hb dX6_bestOil_50 rfl (lv_at hl 5 rfl) ?_
    refine x_get (v := .ref (o 1)) X 0 0 in_X6 hP rfl rfl (by decide) wF_X6_7 rfl rfl dX6_bestOil_51 ?_
    refine lv_iconst (v := 0) hx hb dX6_bestOil_54 (by decide) ?_
    refine x_iald (v := ((mboF r cn mn 3) 0)) X 1 0 hP rfl rfl (by decide) (Nat.le_of_ble_eq_true rfl) rfl dX6_bestOil_55 ?_
    refine lv_sipush (v := 720) hx hb dX6_bestOil_56 (by decide) ?_
    refine lv_irem hx hb dX6_bestOil_59 (by decide) ?_
    refine x_goI (wn := MW g o ((mboF r cn mn 3), (mP r), (mK r), (mZ r), (mB r), (mO r), (mM r), (mI r), (mY r), (mT r), (mS r), (mW r))) (x_rS (As := [.int ((mboF r cn mn 3) 15), .int (jrem ((mboF r cn mn 3) 0) 720)]) X (c_X6_distance l g ((mboF r cn mn 3) 15) (jrem ((mboF r cn mn 3) 0) 720) _) yf_X6_distance ys_X6_distance wM_X6_64 ⟨Nat.le_of_ble_eq_true rfl, Nat.le_of_ble_eq_true rfl⟩ hP hD (p_none _) hl rfl rfl (Nat.le_of_ble_eq_true rfl) dX6_bestOil_60 ⟨Nat.zero_le _, Nat.zero_le _⟩) hP hD hS hA (p_none _) (p_noneB _) (fun H locs hP hD hS => ?_)
    refine lv_iadd hx hb dX6_bestOil_63 ?_
    refine lv_istore (lv' := [(4, .int ((0 + (distM ((mboF r cn mn 3) 8) (jrem ((mboF r cn mn 3) 0) 720))) + (distM ((mboF r cn mn 3) 15) (jrem ((mboF r cn mn 3) 0) 720)))), (5, .int 1), (3, .int 3), (2, .int u), (1, .int b), (0, .ref (o 0))]) hx hb dX6_bestOil_64 hl (by decide) rfl (fun ls hl => ?_)
    refine lv_iinc (v := 2) (lv' := [(5, .int 2), (4, .int ((0 + (distM ((mboF r cn mn 3) 8) (jrem ((mboF r cn mn 3) 0) 720))) + (distM ((mboF r cn mn 3) 15) (jrem ((mboF r cn mn 3) 0) 720)))), (3, .int 3), (2, .int u), (1, .int b), (0, .ref (o 0))]) hx hb dX6_bestOil_66 hl (k := 1) rfl rfl (by decide) rfl (fun ls hl => ?_)
    refine lv_goto (tgt := 35) hx hb dX6_bestOil_69 (by decide) ?_
    refine lv_iload hx hb dX6_bestOil_35 (lv_at hl 0 rfl) ?_
    refine lv_iconst (v := 4) hx hb dX6_bestOil_37 (by decide) ?_
    refine lv_icmp_ge (tgt := 72) hx hb dX6_bestOil_38 (by decide) (fun q9 => absurd q9 (show ¬ (4 : Int32) ≤ (2 : Int32) from (by decide))) (fun c_5 => ?_)
    refine lv_iload hx hb dX6_bestOil_41 (lv_at hl 1 rfl) ?_
    refine lv_aload_n hx hb dX6_bestOil_43 rfl (lv_at hl 5 rfl) ?_
    refine lv_iload hx hb dX6_bestOil_44 (lv_at hl 0 rfl) ?_
    refine lv_iconst (v := 0) hx hb dX6_bestOil_46 (by decide) ?_
    refine x_goI (wn := MW g o ((mboF r cn mn 3), (mP r), (mK r), (mZ r), (mB r), (mO r), (mM r), (mI r), (mY r), (mT r), (mS r), (mW r))) (x_rV (As := [.int 2, .int 0]) X (c_X6_of l g o ((mboF r cn mn 3), (mP r), (mK r), (mZ r), (mB r), (mO r), (mM r), (mI r), (mY r), (mT r), (mS r), (mW r)) 2 0 (by decide) (by decide)  _) yf_X6_of yi_X6_of wM_X6_56 ⟨Nat.le_of_ble_eq_true rfl, Nat.le_of_ble_eq_true rfl⟩ hP hD (p_all _) 0 rfl rfl hl rfl rfl (Nat.le_of_ble_eq_true rfl) dX6_bestOil_47 ⟨Nat.zero_le _, Nat.zero_le _⟩) hP hD hS hA (p_all _) (p_back _) (fun H locs hP hD hS => ?_)
    refine lv_aload_n hx hb dX6_bestOil_50 rfl (lv_at hl 5 rfl) ?_
    refine x_get (v := .ref (o 1)) X 0 0 in_X6 hP rfl rfl (by decide) wF_X6_7 rfl rfl dX6_bestOil_51 ?_
    refine lv_iconst (v := 0) hx hb dX6_bestOil_54 (by decide) ?_
    refine x_iald (v := ((mboF r cn mn 3) 0)) X 1 0 hP rfl rfl (by decide) (Nat.le_of_ble_eq_true rfl) rfl dX6_bestOil_55 ?_
    refine lv_sipush (v := 720) hx hb dX6_bestOil_56 (by decide) ?_
    refine lv_irem hx hb dX6_bestOil_59 (by decide) ?_
    refine x_goI (wn := MW g o ((mboF r cn mn 3), (mP r), (mK r), (mZ r), (mB r), (mO r), (mM r), (mI r), (mY r), (mT r), (mS r), (mW r))) (x_rS (As := [.int ((mboF r cn mn 3) 22), .int (jrem ((mboF r cn mn 3) 0) 720)]) X (c_X6_distance l g ((mboF r cn mn 3) 22) (jrem ((mboF r cn mn 3) 0) 720) _) yf_X6_distance ys_X6_distance wM_X6_64 ⟨Nat.le_of_ble_eq_true rfl, Nat.le_of_ble_eq_true rfl⟩ hP hD (p_none _) hl rfl rfl (Nat.le_of_ble_eq_true rfl) dX6_bestOil_60 ⟨Nat.zero_le _, Nat.zero_le _⟩) hP hD hS hA (p_none _) (p_noneB _) (fun H locs hP hD hS => ?_)
    refine lv_iadd hx hb dX6_bestOil_63 ?_
    refine lv_istore (lv' := [(4, .int (((0 + (distM ((mboF r cn mn 3) 8) (jrem ((mboF r cn mn 3) 0) 720))) + (distM ((mboF r cn mn 3) 15) (jrem ((mboF r cn mn 3) 0) 720))) + (distM ((mboF r cn mn 3) 22) (jrem ((mboF r cn mn 3) 0) 720)))), (5, .int 2), (3, .int 3), (2, .int u), (1, .int b), (0, .ref (o 0))]) hx hb dX6_bestOil_64 hl (by decide) rfl (fun ls hl => ?_)
    refine lv_iinc (v := 3) (lv' := [(5, .int 3), (4, .int (((0 + (distM ((mboF r cn mn 3) 8) (jrem ((mboF r cn mn 3) 0) 720))) + (distM ((mboF r cn mn 3) 15) (jrem ((mboF r cn mn 3) 0) 720))) + (distM ((mboF r cn mn 3) 22) (jrem ((mboF r cn mn 3) 0) 720)))), (3, .int 3), (2, .int u), (1, .int b), (0, .ref (o 0))]) hx hb dX6_bestOil_66 hl (k := 1) rfl rfl (by decide) rfl (fun ls hl => ?_)
    refine lv_goto (tgt := 35) hx hb dX6_bestOil_69 (by decide) ?_
    refine lv_iload hx hb dX6_bestOil_35 (lv_at hl 0 rfl) ?_
    refine lv_iconst (v := 4) hx hb dX6_bestOil_37 (by decide) ?_
    refine lv_icmp_ge (tgt := 72) hx hb dX6_bestOil_38 (by decide) (fun q9 => absurd q9 (show ¬ (4 : Int32) ≤ (3 : Int32) from (by decide))) (fun c_6 => ?_)
    refine lv_iload hx hb dX6_bestOil_41 (lv_at hl 1 rfl) ?_
    refine lv_aload_n hx hb dX6_bestOil_43 rfl (lv_at hl 5 rfl) ?_
    refine lv_iload hx hb dX6_bestOil_44 (lv_at hl 0 rfl) ?_
    refine lv_iconst (v := 0) hx hb dX6_bestOil_46 (by decide) ?_
    refine x_goI (wn := MW g o ((mboF r cn mn 3), (mP r), (mK r), (mZ r), (mB r), (mO r), (mM r), (mI r), (mY r), (mT r), (mS r), (mW r))) (x_rV (As := [.int 3, .int 0]) X (c_X6_of l g o ((mboF r cn mn 3), (mP r), (mK r), (mZ r), (mB r), (mO r), (mM r), (mI r), (mY r), (mT r), (mS r), (mW r)) 3 0 (by decide) (by decide)  _) yf_X6_of yi_X6_of wM_X6_56 ⟨Nat.le_of_ble_eq_true rfl, Nat.le_of_ble_eq_true rfl⟩ hP hD (p_all _) 0 rfl rfl hl rfl rfl (Nat.le_of_ble_eq_true rfl) dX6_bestOil_47 ⟨Nat.zero_le _, Nat.zero_le _⟩) hP hD hS hA (p_all _) (p_back _) (fun H locs hP hD hS => ?_)
    refine lv_aload_n hx hb dX6_bestOil_50 rfl (lv_at hl 5 rfl) ?_
    refine x_get (v := .ref (o 1)) X 0 0 in_X6 hP rfl rfl (by decide) wF_X6_7 rfl rfl dX6_bestOil_51 ?_
    refine lv_iconst (v := 0) hx hb dX6_bestOil_54 (by decide) ?_
    refine x_iald (v := ((mboF r cn mn 3) 0)) X 1 0 hP rfl rfl (by decide) (Nat.le_of_ble_eq_true rfl) rfl dX6_bestOil_55 ?_
    refine lv_sipush (v := 720) hx hb dX6_bestOil_56 (by decide) ?_
    refine lv_irem hx hb dX6_bestOil_59 (by decide) ?_
    refine x_goI (wn := MW g o ((mboF r cn mn 3), (mP r), (mK r), (mZ r), (mB r), (mO r), (mM r), (mI r), (mY r), (mT r), (mS r), (mW r))) (x_rS (As := [.int ((mboF r cn mn 3) 29), .int (jrem ((mboF r cn mn 3) 0) 720)]) X (c_X6_distance l g ((mboF r cn mn 3) 29) (jrem ((mboF r cn mn 3) 0) 720) _) yf_X6_distance ys_X6_distance wM_X6_64 ⟨Nat.le_of_ble_eq_true rfl, Nat.le_of_ble_eq_true rfl⟩ hP hD (p_none _) hl rfl rfl (Nat.le_of_ble_eq_true rfl) dX6_bestOil_60 ⟨Nat.zero_le _, Nat.zero_le _⟩) hP hD hS hA (p_none _) (p_noneB _) (fun H locs hP hD hS => ?_)
    refine lv_iadd hx hb dX6_bestOil_63 ?_
    refine lv_istore (lv' := [(4, .int ((((0 + (distM ((mboF r cn mn 3) 8) (jrem ((mboF r cn mn 3) 0) 720))) + (distM ((mboF r cn mn 3) 15) (jrem ((mboF r cn mn 3) 0) 720))) + (distM ((mboF r cn mn 3) 22) (jrem ((mboF r cn mn 3) 0) 720))) + (distM ((mboF r cn mn 3) 29) (jrem ((mboF r cn mn 3) 0) 720)))), (5, .int 3), (3, .int 3), (2, .int u), (1, .int b), (0, .ref (o 0))]) hx hb dX6_bestOil_64 hl (by decide) rfl (fun ls hl => ?_)
    refine lv_iinc (v := 4) (lv' := [(5, .int 4), (4, .int ((((0 + (distM ((mboF r cn mn 3) 8) (jrem ((mboF r cn mn 3) 0) 720))) + (distM ((mboF r cn mn 3) 15) (jrem ((mboF r cn mn 3) 0) 720))) + (distM ((mboF r cn mn 3) 22) (jrem ((mboF r cn mn 3) 0) 720))) + (distM ((mboF r cn mn 3) 29) (jrem ((mboF r cn mn 3) 0) 720)))), (3, .int 3), (2, .int u), (1, .int b), (0, .ref (o 0))]) hx hb dX6_bestOil_66 hl (k := 1) rfl rfl (by decide) rfl (fun ls hl => ?_)
    refine lv_goto (tgt := 35) hx hb dX6_bestOil_69 (by decide) ?_
    refine lv_iload hx hb dX6_bestOil_35 (lv_at hl 0 rfl) ?_
    refine lv_iconst (v := 4) hx hb dX6_bestOil_37 (by decide) ?_
    refine lv_icmp_ge (tgt := 72) hx hb dX6_bestOil_38 (by decide) (fun c_7 => ?_) (fun q9 => absurd (show (4 : Int32) ≤ (4 : Int32) from (by decide)) (show ¬ ((4 : Int32) ≤ (4 : Int32)) from q9))
    refine lv_aload_n hx hb dX6_bestOil_72 rfl (lv_at hl 5 rfl) ?_
    refine x_goV (wn := MW g o ((mZ r), (mP r), (mK r), (mZ r), (mB r), (mO r), (mM r), (mI r), (mY r), (mT r), (mS r), (mW r))) (x_rV (As := []) X (c_X6_takeBack l g o ((mboF r cn mn 3), (mP r), (mK r), (mZ r), (mB r), (mO r), (mM r), (mI r), (mY r), (mT r), (mS r), (mW r))   _) yf_X6_takeBack yi_X6_takeBack wM_X6_129 ⟨Nat.le_of_ble_eq_true rfl, Nat.le_of_ble_eq_true rfl⟩ hP hD (p_all _) 0 rfl rfl hl rfl rfl (Nat.le_of_ble_eq_true rfl) dX6_bestOil_73 ⟨Nat.zero_le _, Nat.zero_le _⟩) hP hD hS hA (p_all _) (p_back _) (fun H locs hP hD hS => ?_)
    refine lv_iload_n hx hb dX6_bestOil_76 rfl (lv_at hl 2 rfl) ?_
    refine lv_if_le (tgt := 90) hx hb dX6_bestOil_77 (by decide) (fun q9 => absurd q9 (show ¬ (3 : Int32) ≤ 0 from (by decide))) (fun c_8 => ?_)
    refine lv_iload hx hb dX6_bestOil_80 (lv_at hl 1 rfl) ?_
    refine lv_iload_n hx hb dX6_bestOil_82 rfl (lv_at hl 3 rfl) ?_
    refine lv_icmp_ge (tgt := 90) hx hb dX6_bestOil_83 (by decide) (fun (c_9 : u ≤ ((((0 + (distM ((mboF r cn mn 3) 8) (jrem ((mboF r cn mn 3) 0) 720))) + (distM ((mboF r cn mn 3) 15) (jrem ((mboF r cn mn 3) 0) 720))) + (distM ((mboF r cn mn 3) 22) (jrem ((mboF r cn mn 3) 0) 720))) + (distM ((mboF r cn mn 3) 29) (jrem ((mboF r cn mn 3) 0) 720)))) => ?_) (fun (c_9 : ¬ u ≤ ((((0 + (distM ((mboF r cn mn 3) 8) (jrem ((mboF r cn mn 3) 0) 720))) + (distM ((mboF r cn mn 3) 15) (jrem ((mboF r cn mn 3) 0) 720))) + (distM ((mboF r cn mn 3) 22) (jrem ((mboF r cn mn 3) 0) 720))) + (distM ((mboF r cn mn 3) 29) (jrem ((mboF r cn mn 3) 0) 720)))) => ?_)
    · refine lv_iload_n hx hb dX6_bestOil_90 rfl (lv_at hl 4 rfl) ?_
      refine lv_istore_n (lv' := [(1, .int b), (5, .int 4), (4, .int ((((0 + (distM ((mboF r cn mn 3) 8) (jrem ((mboF r cn mn 3) 0) 720))) + (distM ((mboF r cn mn 3) 15) (jrem ((mboF r cn mn 3) 0) 720))) + (distM ((mboF r cn mn 3) 22) (jrem ((mboF r cn mn 3) 0) 720))) + (distM ((mboF r cn mn 3) 29) (jrem ((mboF r cn mn 3) 0) 720)))), (3, .int 3), (2, .int u), (0, .ref (o 0))]) hx hb dX6_bestOil_91 rfl hl (by decide) rfl (fun ls hl => ?_)
      refine lv_iload_n hx hb dX6_bestOil_92 rfl (lv_at hl 3 rfl) ?_
      refine lv_if_eq (tgt := 102) hx hb dX6_bestOil_93 (by decide) (fun q9 => absurd q9 (show ¬ (3 : Int32) = 0 from (by decide))) (fun c_10 => ?_)
      refine lv_iload hx hb dX6_bestOil_96 (lv_at hl 2 rfl) ?_
      refine lv_iload_n hx hb dX6_bestOil_98 rfl (lv_at hl 4 rfl) ?_
      refine lv_icmp_ge (tgt := 107) hx hb dX6_bestOil_99 (by decide) (fun c_11 => ?_) (fun q9 => absurd (show u ≤ ((((0 + (distM ((mboF r cn mn 3) 8) (jrem ((mboF r cn mn 3) 0) 720))) + (distM ((mboF r cn mn 3) 15) (jrem ((mboF r cn mn 3) 0) 720))) + (distM ((mboF r cn mn 3) 22) (jrem ((mboF r cn mn 3) 0) 720))) + (distM ((mboF r cn mn 3) 29) (jrem ((mboF r cn mn 3) 0) 720))) from c_9) (show ¬ (u ≤ ((((0 + (distM ((mboF r cn mn 3) 8) (jrem ((mboF r cn mn 3) 0) 720))) + (distM ((mboF r cn mn 3) 15) (jrem ((mboF r cn mn 3) 0) 720))) + (distM ((mboF r cn mn 3) 22) (jrem ((mboF r cn mn 3) 0) 720))) + (distM ((mboF r cn mn 3) 29) (jrem ((mboF r cn mn 3) 0) 720)))) from q9))
      refine lv_iload_n hx hb dX6_bestOil_107 rfl (lv_at hl 4 rfl) ?_
      refine lv_istore_n (lv' := [(2, .int u), (1, .int b), (5, .int 4), (4, .int ((((0 + (distM ((mboF r cn mn 3) 8) (jrem ((mboF r cn mn 3) 0) 720))) + (distM ((mboF r cn mn 3) 15) (jrem ((mboF r cn mn 3) 0) 720))) + (distM ((mboF r cn mn 3) 22) (jrem ((mboF r cn mn 3) 0) 720))) + (distM ((mboF r cn mn 3) 29) (jrem ((mboF r cn mn 3) 0) 720)))), (3, .int 3), (0, .ref (o 0))]) hx hb dX6_bestOil_108 rfl hl (by decide) rfl (fun ls hl => ?_)
      refine lv_iinc (v := 4) (lv' := [(3, .int 4), (2, .int u), (1, .int b), (5, .int 4), (4, .int ((((0 + (distM ((mboF r cn mn 3) 8) (jrem ((mboF r cn mn 3) 0) 720))) + (distM ((mboF r cn mn 3) 15) (jrem ((mboF r cn mn 3) 0) 720))) + (distM ((mboF r cn mn 3) 22) (jrem ((mboF r cn mn 3) 0) 720))) + (distM ((mboF r cn mn 3) 29) (jrem ((mboF r cn mn 3) 0) 720)))), (0, .ref (o 0))]) hx hb dX6_bestOil_109 hl (k := 4) rfl rfl (by decide) rfl (fun ls hl => ?_)
      refine lv_goto (tgt := 6) hx hb dX6_bestOil_112 (by decide) ?_
      exact L6_4 b u (by rw [← ht]; exact (show boM r cn mn 1 3 b u = _ from if_pos (show u ≤ (dfM (mboF r cn mn 3)) from c_9)).symm) ls _ _ hP hD hS (lv_sub hl [0, 1, 2, 5] rfl)
    · refine lv_iload_n hx hb dX6_bestOil_86 rfl (lv_at hl 2 rfl) ?_
      refine lv_goto (tgt := 91) hx hb dX6_bestOil_87 (by decide) ?_
      refine lv_istore_n (lv' := [(1, .int 3), (5, .int 4), (4, .int ((((0 + (distM ((mboF r cn mn 3) 8) (jrem ((mboF r cn mn 3) 0) 720))) + (distM ((mboF r cn mn 3) 15) (jrem ((mboF r cn mn 3) 0) 720))) + (distM ((mboF r cn mn 3) 22) (jrem ((mboF r cn mn 3) 0) 720))) + (distM ((mboF r cn mn 3) 29) (jrem ((mboF r cn mn 3) 0) 720)))), (3, .int 3), (2, .int u), (0, .ref (o 0))]) hx hb dX6_bestOil_91 rfl hl (by decide) rfl (fun ls hl => ?_)
      refine lv_iload_n hx hb dX6_bestOil_92 rfl (lv_at hl 3 rfl) ?_
      refine lv_if_eq (tgt := 102) hx hb dX6_bestOil_93 (by decide) (fun q9 => absurd q9 (show ¬ (3 : Int32) = 0 from (by decide))) (fun c_12 => ?_)
      refine lv_iload hx hb dX6_bestOil_96 (lv_at hl 2 rfl) ?_
      refine lv_iload_n hx hb dX6_bestOil_98 rfl (lv_at hl 4 rfl) ?_
      refine lv_icmp_ge (tgt := 107) hx hb dX6_bestOil_99 (by decide) (fun q9 => absurd q9 (show ¬ u ≤ ((((0 + (distM ((mboF r cn mn 3) 8) (jrem ((mboF r cn mn 3) 0) 720))) + (distM ((mboF r cn mn 3) 15) (jrem ((mboF r cn mn 3) 0) 720))) + (distM ((mboF r cn mn 3) 22) (jrem ((mboF r cn mn 3) 0) 720))) + (distM ((mboF r cn mn 3) 29) (jrem ((mboF r cn mn 3) 0) 720))) from c_9)) (fun c_13 => ?_)
      refine lv_iload hx hb dX6_bestOil_102 (lv_at hl 2 rfl) ?_
      refine lv_goto (tgt := 108) hx hb dX6_bestOil_104 (by decide) ?_
      refine lv_istore_n (lv' := [(2, .int ((((0 + (distM ((mboF r cn mn 3) 8) (jrem ((mboF r cn mn 3) 0) 720))) + (distM ((mboF r cn mn 3) 15) (jrem ((mboF r cn mn 3) 0) 720))) + (distM ((mboF r cn mn 3) 22) (jrem ((mboF r cn mn 3) 0) 720))) + (distM ((mboF r cn mn 3) 29) (jrem ((mboF r cn mn 3) 0) 720)))), (1, .int 3), (5, .int 4), (4, .int ((((0 + (distM ((mboF r cn mn 3) 8) (jrem ((mboF r cn mn 3) 0) 720))) + (distM ((mboF r cn mn 3) 15) (jrem ((mboF r cn mn 3) 0) 720))) + (distM ((mboF r cn mn 3) 22) (jrem ((mboF r cn mn 3) 0) 720))) + (distM ((mboF r cn mn 3) 29) (jrem ((mboF r cn mn 3) 0) 720)))), (3, .int 3), (0, .ref (o 0))]) hx hb dX6_bestOil_108 rfl hl (by decide) rfl (fun ls hl => ?_)
      refine lv_iinc (v := 4) (lv' := [(3, .int 4), (2, .int ((((0 + (distM ((mboF r cn mn 3) 8) (jrem ((mboF r cn mn 3) 0) 720))) + (distM ((mboF r cn mn 3) 15) (jrem ((mboF r cn mn 3) 0) 720))) + (distM ((mboF r cn mn 3) 22) (jrem ((mboF r cn mn 3) 0) 720))) + (distM ((mboF r cn mn 3) 29) (jrem ((mboF r cn mn 3) 0) 720)))), (1, .int 3), (5, .int 4), (4, .int ((((0 + (distM ((mboF r cn mn 3) 8) (jrem ((mboF r cn mn 3) 0) 720))) + (distM ((mboF r cn mn 3) 15) (jrem ((mboF r cn mn 3) 0) 720))) + (distM ((mboF r cn mn 3) 22) (jrem ((mboF r cn mn 3) 0) 720))) + (distM ((mboF r cn mn 3) 29) (jrem ((mboF r cn mn 3) 0) 720)))), (0, .ref (o 0))]) hx hb dX6_bestOil_109 hl (k := 4) rfl rfl (by decide) rfl (fun ls hl => ?_)
      refine lv_goto (tgt := 6) hx hb dX6_bestOil_112 (by decide) ?_
      exact L6_4 3 (dfM (mboF r cn mn 3)) (by rw [← ht]; exact (show boM r cn mn 1 3 b u = _ from if_neg (show ¬ u ≤ (dfM (mboF r cn mn 3)) from c_9)).symm) ls _ _ hP hD hS (lv_sub hl [0, 1, 2, 5] rfl)
  have L6_2 : ∀ b u : Int32, boM r cn mn 2 2 b u = mBestOiln r cn mn → ∀ (ls : Array Slot) (H : Heap) (locs : List Loc), va_P g.1 vwCl (MW g o ((mZ r), (mP r), (mK r), (mZ r), (mB r), (mO r), (mM r), (mI r), (mY r), (mT r), (mS r), (mW r))) H → va_D A (MW g o ((mZ r), (mP r), (mK r), (mZ r), (mB r), (mO r), (mM r), (mI r), (mY r), (mT r), (mS r), (mW r))) → va_S A s.heap H locs → lv_has ls 6 [(3, .int 2), (2, .int u), (1, .int b), (0, .ref (o 0))] → W p l e (rmD 6) s m args below meth c H locs 0 0 (MQ below (QI g A (mBestOiln r cn mn) (MW g o (mas r))) args s 0 0 A) (F0 m 6 ls []) := by
    intro b u ht ls H locs hP hD hS hl
    refine lv_iload_n hx hb dX6_bestOil_6 rfl (lv_at hl 0 rfl) ?_
    refine lv_iconst (v := 4) hx hb dX6_bestOil_7 (by decide) ?_
    refine lv_icmp_ge (tgt := 115) hx hb dX6_bestOil_8 (by decide) (fun q9 => absurd q9 (show ¬ (4 : Int32) ≤ (2 : Int32) from (by decide))) (fun c_14 => ?_)
    refine lv_aload_n hx hb dX6_bestOil_11 rfl (lv_at hl 3 rfl) ?_
    refine x_goV (wn := MW g o ((mZ r), (mP r), (mK r), (mZ r), (mB r), (mO r), (mM r), (mI r), (mY r), (mT r), (mS r), (mW r))) (x_rV (As := []) X (c_X6_putAside l g o ((mZ r), (mP r), (mK r), (mZ r), (mB r), (mO r), (mM r), (mI r), (mY r), (mT r), (mS r), (mW r))   _) yf_X6_putAside yi_X6_putAside wM_X6_126 ⟨Nat.le_of_ble_eq_true rfl, Nat.le_of_ble_eq_true rfl⟩ hP hD (p_all _) 0 rfl rfl hl rfl rfl (Nat.le_of_ble_eq_true rfl) dX6_bestOil_12 ⟨Nat.zero_le _, Nat.zero_le _⟩) hP hD hS hA (p_all _) (p_back _) (fun H locs hP hD hS => ?_)
    refine lv_aload_n hx hb dX6_bestOil_15 rfl (lv_at hl 3 rfl) ?_
    refine lv_iload_n hx hb dX6_bestOil_16 rfl (lv_at hl 0 rfl) ?_
    refine x_goI (wn := MW g o ((oilM 22 (mZ r)), (mP r), (mK r), (mZ r), (mB r), (mO r), (mM r), (mI r), (mY r), (mT r), (mS r), (mW r))) (x_rV (As := [.int 2]) X (c_X6_oils_2 l g o ((mZ r), (mP r), (mK r), (mZ r), (mB r), (mO r), (mM r), (mI r), (mY r), (mT r), (mS r), (mW r))   _) yf_X6_oils yi_X6_oils wM_X6_60 ⟨Nat.le_of_ble_eq_true rfl, Nat.le_of_ble_eq_true rfl⟩ hP hD (p_all _) 0 rfl rfl hl rfl rfl (Nat.le_of_ble_eq_true rfl) dX6_bestOil_17 ⟨Nat.zero_le _, Nat.zero_le _⟩) hP hD hS hA (p_all _) (p_back _) (fun H locs hP hD hS => ?_)
    refine lv_pop hx hb dX6_bestOil_20 rfl ?_
    refine lv_aload_n hx hb dX6_bestOil_21 rfl (lv_at hl 3 rfl) ?_
    refine lv_sipush (v := 1440) hx hb dX6_bestOil_22 (by decide) ?_
    refine W.eq (g2 := F0 m 25 ls [.int (nI mn), .ref (o 0)]) (by rw [h14]) ?_
    refine x_goI (wn := MW g o (((pmsM cn mn (oilM 22 (mZ r)) 0).1), (mP r), (mK r), (mZ r), (mB r), (mO r), (mM r), (mI r), (mY r), (mT r), (mS r), (mW r))) (x_rV (As := [.int (nI mn)]) X (c_X6_passes l g o ((oilM 22 (mZ r)), (mP r), (mK r), (mZ r), (mB r), (mO r), (mM r), (mI r), (mY r), (mT r), (mS r), (mW r)) cn hc ((oilM_7 22 (mZ r) (by decide)).trans hz) mn hm  _) yf_X6_passes yi_X6_passes wM_X6_93 ⟨Nat.le_of_ble_eq_true rfl, Nat.le_of_ble_eq_true rfl⟩ hP hD (p_all _) 0 rfl rfl hl rfl rfl (Nat.le_of_ble_eq_true rfl) dX6_bestOil_25 ⟨Nat.zero_le _, Nat.zero_le _⟩) hP hD hS hA (p_all _) (p_back _) (fun H locs hP hD hS => ?_)
    refine lv_pop hx hb dX6_bestOil_28 rfl ?_
    refine lv_iconst (v := 0) hx hb dX6_bestOil_29 (by decide) ?_
    refine lv_istore (lv' := [(4, .int 0), (3, .int 2), (2, .int u), (1, .int b), (0, .ref (o 0))]) hx hb dX6_bestOil_30 hl (by decide) rfl (fun ls hl => ?_)
    have hP : va_P g.1 vwCl (MW g o ((mboF r cn mn 2), (mP r), (mK r), (mZ r), (mB r), (mO r), (mM r), (mI r), (mY r), (mT r), (mS r), (mW r))) H := hP
    have hD : va_D A (MW g o ((mboF r cn mn 2), (mP r), (mK r), (mZ r), (mB r), (mO r), (mM r), (mI r), (mY r), (mT r), (mS r), (mW r))) := hD
    refine lv_iconst (v := 0) hx hb dX6_bestOil_32 (by decide) ?_
    refine lv_istore (lv' := [(5, .int 0), (4, .int 0), (3, .int 2), (2, .int u), (1, .int b), (0, .ref (o 0))]) hx hb dX6_bestOil_33 hl (by decide) rfl (fun ls hl => ?_)
    refine lv_iload hx hb dX6_bestOil_35 (lv_at hl 0 rfl) ?_
    refine lv_iconst (v := 4) hx hb dX6_bestOil_37 (by decide) ?_
    refine lv_icmp_ge (tgt := 72) hx hb dX6_bestOil_38 (by decide) (fun q9 => absurd q9 (show ¬ (4 : Int32) ≤ (0 : Int32) from (by decide))) (fun c_15 => ?_)
    refine lv_iload hx hb dX6_bestOil_41 (lv_at hl 1 rfl) ?_
    refine lv_aload_n hx hb dX6_bestOil_43 rfl (lv_at hl 5 rfl) ?_
    refine lv_iload hx hb dX6_bestOil_44 (lv_at hl 0 rfl) ?_
    refine lv_iconst (v := 0) hx hb dX6_bestOil_46 (by decide) ?_
    refine x_goI (wn := MW g o ((mboF r cn mn 2), (mP r), (mK r), (mZ r), (mB r), (mO r), (mM r), (mI r), (mY r), (mT r), (mS r), (mW r))) (x_rV (As := [.int 0, .int 0]) X (c_X6_of l g o ((mboF r cn mn 2), (mP r), (mK r), (mZ r), (mB r), (mO r), (mM r), (mI r), (mY r), (mT r), (mS r), (mW r)) 0 0 (by decide) (by decide)  _) yf_X6_of yi_X6_of wM_X6_56 ⟨Nat.le_of_ble_eq_true rfl, Nat.le_of_ble_eq_true rfl⟩ hP hD (p_all _) 0 rfl rfl hl rfl rfl (Nat.le_of_ble_eq_true rfl) dX6_bestOil_47 ⟨Nat.zero_le _, Nat.zero_le _⟩) hP hD hS hA (p_all _) (p_back _) (fun H locs hP hD hS => ?_)
    refine lv_aload_n hx hb dX6_bestOil_50 rfl (lv_at hl 5 rfl) ?_
    refine x_get (v := .ref (o 1)) X 0 0 in_X6 hP rfl rfl (by decide) wF_X6_7 rfl rfl dX6_bestOil_51 ?_
    refine lv_iconst (v := 0) hx hb dX6_bestOil_54 (by decide) ?_
    refine x_iald (v := ((mboF r cn mn 2) 0)) X 1 0 hP rfl rfl (by decide) (Nat.le_of_ble_eq_true rfl) rfl dX6_bestOil_55 ?_
    refine lv_sipush (v := 720) hx hb dX6_bestOil_56 (by decide) ?_
    refine lv_irem hx hb dX6_bestOil_59 (by decide) ?_
    refine x_goI (wn := MW g o ((mboF r cn mn 2), (mP r), (mK r), (mZ r), (mB r), (mO r), (mM r), (mI r), (mY r), (mT r), (mS r), (mW r))) (x_rS (As := [.int ((mboF r cn mn 2) 8), .int (jrem ((mboF r cn mn 2) 0) 720)]) X (c_X6_distance l g ((mboF r cn mn 2) 8) (jrem ((mboF r cn mn 2) 0) 720) _) yf_X6_distance ys_X6_distance wM_X6_64 ⟨Nat.le_of_ble_eq_true rfl, Nat.le_of_ble_eq_true rfl⟩ hP hD (p_none _) hl rfl rfl (Nat.le_of_ble_eq_true rfl) dX6_bestOil_60 ⟨Nat.zero_le _, Nat.zero_le _⟩) hP hD hS hA (p_none _) (p_noneB _) (fun H locs hP hD hS => ?_)
    refine lv_iadd hx hb dX6_bestOil_63 ?_
    refine lv_istore (lv' := [(4, .int (0 + (distM ((mboF r cn mn 2) 8) (jrem ((mboF r cn mn 2) 0) 720)))), (5, .int 0), (3, .int 2), (2, .int u), (1, .int b), (0, .ref (o 0))]) hx hb dX6_bestOil_64 hl (by decide) rfl (fun ls hl => ?_)
    refine lv_iinc (v := 1) (lv' := [(5, .int 1), (4, .int (0 + (distM ((mboF r cn mn 2) 8) (jrem ((mboF r cn mn 2) 0) 720)))), (3, .int 2), (2, .int u), (1, .int b), (0, .ref (o 0))]) hx hb dX6_bestOil_66 hl (k := 1) rfl rfl (by decide) rfl (fun ls hl => ?_)
    refine lv_goto (tgt := 35) hx hb dX6_bestOil_69 (by decide) ?_
    refine lv_iload hx hb dX6_bestOil_35 (lv_at hl 0 rfl) ?_
    refine lv_iconst (v := 4) hx hb dX6_bestOil_37 (by decide) ?_
    refine lv_icmp_ge (tgt := 72) hx hb dX6_bestOil_38 (by decide) (fun q9 => absurd q9 (show ¬ (4 : Int32) ≤ (1 : Int32) from (by decide))) (fun c_16 => ?_)
    refine lv_iload hx hb dX6_bestOil_41 (lv_at hl 1 rfl) ?_
    refine lv_aload_n hx hb dX6_bestOil_43 rfl (lv_at hl 5 rfl) ?_
    refine lv_iload hx hb dX6_bestOil_44 (lv_at hl 0 rfl) ?_
    refine lv_iconst (v := 0) hx hb dX6_bestOil_46 (by decide) ?_
    refine x_goI (wn := MW g o ((mboF r cn mn 2), (mP r), (mK r), (mZ r), (mB r), (mO r), (mM r), (mI r), (mY r), (mT r), (mS r), (mW r))) (x_rV (As := [.int 1, .int 0]) X (c_X6_of l g o ((mboF r cn mn 2), (mP r), (mK r), (mZ r), (mB r), (mO r), (mM r), (mI r), (mY r), (mT r), (mS r), (mW r)) 1 0 (by decide) (by decide)  _) yf_X6_of yi_X6_of wM_X6_56 ⟨Nat.le_of_ble_eq_true rfl, Nat.le_of_ble_eq_true rfl⟩ hP hD (p_all _) 0 rfl rfl hl rfl rfl (Nat.le_of_ble_eq_true rfl) dX6_bestOil_47 ⟨Nat.zero_le _, Nat.zero_le _⟩) hP hD hS hA (p_all _) (p_back _) (fun H locs hP hD hS => ?_)
    refine lv_aload_n hx hb dX6_bestOil_50 rfl (lv_at hl 5 rfl) ?_
    refine x_get (v := .ref (o 1)) X 0 0 in_X6 hP rfl rfl (by decide) wF_X6_7 rfl rfl dX6_bestOil_51 ?_
    refine lv_iconst (v := 0) hx hb dX6_bestOil_54 (by decide) ?_
    refine x_iald (v := ((mboF r cn mn 2) 0)) X 1 0 hP rfl rfl (by decide) (Nat.le_of_ble_eq_true rfl) rfl dX6_bestOil_55 ?_
    refine lv_sipush (v := 720) hx hb dX6_bestOil_56 (by decide) ?_
    refine lv_irem hx hb dX6_bestOil_59 (by decide) ?_
    refine x_goI (wn := MW g o ((mboF r cn mn 2), (mP r), (mK r), (mZ r), (mB r), (mO r), (mM r), (mI r), (mY r), (mT r), (mS r), (mW r))) (x_rS (As := [.int ((mboF r cn mn 2) 15), .int (jrem ((mboF r cn mn 2) 0) 720)]) X (c_X6_distance l g ((mboF r cn mn 2) 15) (jrem ((mboF r cn mn 2) 0) 720) _) yf_X6_distance ys_X6_distance wM_X6_64 ⟨Nat.le_of_ble_eq_true rfl, Nat.le_of_ble_eq_true rfl⟩ hP hD (p_none _) hl rfl rfl (Nat.le_of_ble_eq_true rfl) dX6_bestOil_60 ⟨Nat.zero_le _, Nat.zero_le _⟩) hP hD hS hA (p_none _) (p_noneB _) (fun H locs hP hD hS => ?_)
    refine lv_iadd hx hb dX6_bestOil_63 ?_
    refine lv_istore (lv' := [(4, .int ((0 + (distM ((mboF r cn mn 2) 8) (jrem ((mboF r cn mn 2) 0) 720))) + (distM ((mboF r cn mn 2) 15) (jrem ((mboF r cn mn 2) 0) 720)))), (5, .int 1), (3, .int 2), (2, .int u), (1, .int b), (0, .ref (o 0))]) hx hb dX6_bestOil_64 hl (by decide) rfl (fun ls hl => ?_)
    refine lv_iinc (v := 2) (lv' := [(5, .int 2), (4, .int ((0 + (distM ((mboF r cn mn 2) 8) (jrem ((mboF r cn mn 2) 0) 720))) + (distM ((mboF r cn mn 2) 15) (jrem ((mboF r cn mn 2) 0) 720)))), (3, .int 2), (2, .int u), (1, .int b), (0, .ref (o 0))]) hx hb dX6_bestOil_66 hl (k := 1) rfl rfl (by decide) rfl (fun ls hl => ?_)
    refine lv_goto (tgt := 35) hx hb dX6_bestOil_69 (by decide) ?_
    refine lv_iload hx hb dX6_bestOil_35 (lv_at hl 0 rfl) ?_
    refine lv_iconst (v := 4) hx hb dX6_bestOil_37 (by decide) ?_
    refine lv_icmp_ge (tgt := 72) hx hb dX6_bestOil_38 (by decide) (fun q9 => absurd q9 (show ¬ (4 : Int32) ≤ (2 : Int32) from (by decide))) (fun c_17 => ?_)
    refine lv_iload hx hb dX6_bestOil_41 (lv_at hl 1 rfl) ?_
    refine lv_aload_n hx hb dX6_bestOil_43 rfl (lv_at hl 5 rfl) ?_
    refine lv_iload hx hb dX6_bestOil_44 (lv_at hl 0 rfl) ?_
    refine lv_iconst (v := 0) hx hb dX6_bestOil_46 (by decide) ?_
    refine x_goI (wn := MW g o ((mboF r cn mn 2), (mP r), (mK r), (mZ r), (mB r), (mO r), (mM r), (mI r), (mY r), (mT r), (mS r), (mW r))) (x_rV (As := [.int 2, .int 0]) X (c_X6_of l g o ((mboF r cn mn 2), (mP r), (mK r), (mZ r), (mB r), (mO r), (mM r), (mI r), (mY r), (mT r), (mS r), (mW r)) 2 0 (by decide) (by decide)  _) yf_X6_of yi_X6_of wM_X6_56 ⟨Nat.le_of_ble_eq_true rfl, Nat.le_of_ble_eq_true rfl⟩ hP hD (p_all _) 0 rfl rfl hl rfl rfl (Nat.le_of_ble_eq_true rfl) dX6_bestOil_47 ⟨Nat.zero_le _, Nat.zero_le _⟩) hP hD hS hA (p_all _) (p_back _) (fun H locs hP hD hS => ?_)
    refine lv_aload_n hx hb dX6_bestOil_50 rfl (lv_at hl 5 rfl) ?_
    refine x_get (v := .ref (o 1)) X 0 0 in_X6 hP rfl rfl (by decide) wF_X6_7 rfl rfl dX6_bestOil_51 ?_
    refine lv_iconst (v := 0) hx hb dX6_bestOil_54 (by decide) ?_
    refine x_iald (v := ((mboF r cn mn 2) 0)) X 1 0 hP rfl rfl (by decide) (Nat.le_of_ble_eq_true rfl) rfl dX6_bestOil_55 ?_
    refine lv_sipush (v := 720) hx hb dX6_bestOil_56 (by decide) ?_
    refine lv_irem hx hb dX6_bestOil_59 (by decide) ?_
    refine x_goI (wn := MW g o ((mboF r cn mn 2), (mP r), (mK r), (mZ r), (mB r), (mO r), (mM r), (mI r), (mY r), (mT r), (mS r), (mW r))) (x_rS (As := [.int ((mboF r cn mn 2) 22), .int (jrem ((mboF r cn mn 2) 0) 720)]) X (c_X6_distance l g ((mboF r cn mn 2) 22) (jrem ((mboF r cn mn 2) 0) 720) _) yf_X6_distance ys_X6_distance wM_X6_64 ⟨Nat.le_of_ble_eq_true rfl, Nat.le_of_ble_eq_true rfl⟩ hP hD (p_none _) hl rfl rfl (Nat.le_of_ble_eq_true rfl) dX6_bestOil_60 ⟨Nat.zero_le _, Nat.zero_le _⟩) hP hD hS hA (p_none _) (p_noneB _) (fun H locs hP hD hS => ?_)
    refine lv_iadd hx hb dX6_bestOil_63 ?_
    refine lv_istore (lv' := [(4, .int (((0 + (distM ((mboF r cn mn 2) 8) (jrem ((mboF r cn mn 2) 0) 720))) + (distM ((mboF r cn mn 2) 15) (jrem ((mboF r cn mn 2) 0) 720))) + (distM ((mboF r cn mn 2) 22) (jrem ((mboF r cn mn 2) 0) 720)))), (5, .int 2), (3, .int 2), (2, .int u), (1, .int b), (0, .ref (o 0))]) hx hb dX6_bestOil_64 hl (by decide) rfl (fun ls hl => ?_)
    refine lv_iinc (v := 3) (lv' := [(5, .int 3), (4, .int (((0 + (distM ((mboF r cn mn 2) 8) (jrem ((mboF r cn mn 2) 0) 720))) + (distM ((mboF r cn mn 2) 15) (jrem ((mboF r cn mn 2) 0) 720))) + (distM ((mboF r cn mn 2) 22) (jrem ((mboF r cn mn 2) 0) 720)))), (3, .int 2), (2, .int u), (1, .int b), (0, .ref (o 0))]) hx hb dX6_bestOil_66 hl (k := 1) rfl rfl (by decide) rfl (fun ls hl => ?_)
    refine lv_goto (tgt := 35) hx hb dX6_bestOil_69 (by decide) ?_
    refine lv_iload hx hb dX6_bestOil_35 (lv_at hl 0 rfl) ?_
    refine lv_iconst (v := 4) hx hb dX6_bestOil_37 (by decide) ?_
    refine lv_icmp_ge (tgt := 72) hx hb dX6_bestOil_38 (by decide) (fun q9 => absurd q9 (show ¬ (4 : Int32) ≤ (3 : Int32) from (by decide))) (fun c_18 => ?_)
    refine lv_iload hx hb dX6_bestOil_41 (lv_at hl 1 rfl) ?_
    refine lv_aload_n hx hb dX6_bestOil_43 rfl (lv_at hl 5 rfl) ?_
    refine lv_iload hx hb dX6_bestOil_44 (lv_at hl 0 rfl) ?_
    refine lv_iconst (v := 0) hx hb dX6_bestOil_46 (by decide) ?_
    refine x_goI (wn := MW g o ((mboF r cn mn 2), (mP r), (mK r), (mZ r), (mB r), (mO r), (mM r), (mI r), (mY r), (mT r), (mS r), (mW r))) (x_rV (As := [.int 3, .int 0]) X (c_X6_of l g o ((mboF r cn mn 2), (mP r), (mK r), (mZ r), (mB r), (mO r), (mM r), (mI r), (mY r), (mT r), (mS r), (mW r)) 3 0 (by decide) (by decide)  _) yf_X6_of yi_X6_of wM_X6_56 ⟨Nat.le_of_ble_eq_true rfl, Nat.le_of_ble_eq_true rfl⟩ hP hD (p_all _) 0 rfl rfl hl rfl rfl (Nat.le_of_ble_eq_true rfl) dX6_bestOil_47 ⟨Nat.zero_le _, Nat.zero_le _⟩) hP hD hS hA (p_all _) (p_back _) (fun H locs hP hD hS => ?_)
    refine lv_aload_n hx hb dX6_bestOil_50 rfl (lv_at hl 5 rfl) ?_
    refine x_get (v := .ref (o 1)) X 0 0 in_X6 hP rfl rfl (by decide) wF_X6_7 rfl rfl dX6_bestOil_51 ?_
    refine lv_iconst (v := 0) hx hb dX6_bestOil_54 (by decide) ?_
    refine x_iald (v := ((mboF r cn mn 2) 0)) X 1 0 hP rfl rfl (by decide) (Nat.le_of_ble_eq_true rfl) rfl dX6_bestOil_55 ?_
    refine lv_sipush (v := 720) hx hb dX6_bestOil_56 (by decide) ?_
    refine lv_irem hx hb dX6_bestOil_59 (by decide) ?_
    refine x_goI (wn := MW g o ((mboF r cn mn 2), (mP r), (mK r), (mZ r), (mB r), (mO r), (mM r), (mI r), (mY r), (mT r), (mS r), (mW r))) (x_rS (As := [.int ((mboF r cn mn 2) 29), .int (jrem ((mboF r cn mn 2) 0) 720)]) X (c_X6_distance l g ((mboF r cn mn 2) 29) (jrem ((mboF r cn mn 2) 0) 720) _) yf_X6_distance ys_X6_distance wM_X6_64 ⟨Nat.le_of_ble_eq_true rfl, Nat.le_of_ble_eq_true rfl⟩ hP hD (p_none _) hl rfl rfl (Nat.le_of_ble_eq_true rfl) dX6_bestOil_60 ⟨Nat.zero_le _, Nat.zero_le _⟩) hP hD hS hA (p_none _) (p_noneB _) (fun H locs hP hD hS => ?_)
    refine lv_iadd hx hb dX6_bestOil_63 ?_
    refine lv_istore (lv' := [(4, .int ((((0 + (distM ((mboF r cn mn 2) 8) (jrem ((mboF r cn mn 2) 0) 720))) + (distM ((mboF r cn mn 2) 15) (jrem ((mboF r cn mn 2) 0) 720))) + (distM ((mboF r cn mn 2) 22) (jrem ((mboF r cn mn 2) 0) 720))) + (distM ((mboF r cn mn 2) 29) (jrem ((mboF r cn mn 2) 0) 720)))), (5, .int 3), (3, .int 2), (2, .int u), (1, .int b), (0, .ref (o 0))]) hx hb dX6_bestOil_64 hl (by decide) rfl (fun ls hl => ?_)
    refine lv_iinc (v := 4) (lv' := [(5, .int 4), (4, .int ((((0 + (distM ((mboF r cn mn 2) 8) (jrem ((mboF r cn mn 2) 0) 720))) + (distM ((mboF r cn mn 2) 15) (jrem ((mboF r cn mn 2) 0) 720))) + (distM ((mboF r cn mn 2) 22) (jrem ((mboF r cn mn 2) 0) 720))) + (distM ((mboF r cn mn 2) 29) (jrem ((mboF r cn mn 2) 0) 720)))), (3, .int 2), (2, .int u), (1, .int b), (0, .ref (o 0))]) hx hb dX6_bestOil_66 hl (k := 1) rfl rfl (by decide) rfl (fun ls hl => ?_)
    refine lv_goto (tgt := 35) hx hb dX6_bestOil_69 (by decide) ?_
    refine lv_iload hx hb dX6_bestOil_35 (lv_at hl 0 rfl) ?_
    refine lv_iconst (v := 4) hx hb dX6_bestOil_37 (by decide) ?_
    refine lv_icmp_ge (tgt := 72) hx hb dX6_bestOil_38 (by decide) (fun c_19 => ?_) (fun q9 => absurd (show (4 : Int32) ≤ (4 : Int32) from (by decide)) (show ¬ ((4 : Int32) ≤ (4 : Int32)) from q9))
    refine lv_aload_n hx hb dX6_bestOil_72 rfl (lv_at hl 5 rfl) ?_
    refine x_goV (wn := MW g o ((mZ r), (mP r), (mK r), (mZ r), (mB r), (mO r), (mM r), (mI r), (mY r), (mT r), (mS r), (mW r))) (x_rV (As := []) X (c_X6_takeBack l g o ((mboF r cn mn 2), (mP r), (mK r), (mZ r), (mB r), (mO r), (mM r), (mI r), (mY r), (mT r), (mS r), (mW r))   _) yf_X6_takeBack yi_X6_takeBack wM_X6_129 ⟨Nat.le_of_ble_eq_true rfl, Nat.le_of_ble_eq_true rfl⟩ hP hD (p_all _) 0 rfl rfl hl rfl rfl (Nat.le_of_ble_eq_true rfl) dX6_bestOil_73 ⟨Nat.zero_le _, Nat.zero_le _⟩) hP hD hS hA (p_all _) (p_back _) (fun H locs hP hD hS => ?_)
    refine lv_iload_n hx hb dX6_bestOil_76 rfl (lv_at hl 2 rfl) ?_
    refine lv_if_le (tgt := 90) hx hb dX6_bestOil_77 (by decide) (fun q9 => absurd q9 (show ¬ (2 : Int32) ≤ 0 from (by decide))) (fun c_20 => ?_)
    refine lv_iload hx hb dX6_bestOil_80 (lv_at hl 1 rfl) ?_
    refine lv_iload_n hx hb dX6_bestOil_82 rfl (lv_at hl 3 rfl) ?_
    refine lv_icmp_ge (tgt := 90) hx hb dX6_bestOil_83 (by decide) (fun (c_21 : u ≤ ((((0 + (distM ((mboF r cn mn 2) 8) (jrem ((mboF r cn mn 2) 0) 720))) + (distM ((mboF r cn mn 2) 15) (jrem ((mboF r cn mn 2) 0) 720))) + (distM ((mboF r cn mn 2) 22) (jrem ((mboF r cn mn 2) 0) 720))) + (distM ((mboF r cn mn 2) 29) (jrem ((mboF r cn mn 2) 0) 720)))) => ?_) (fun (c_21 : ¬ u ≤ ((((0 + (distM ((mboF r cn mn 2) 8) (jrem ((mboF r cn mn 2) 0) 720))) + (distM ((mboF r cn mn 2) 15) (jrem ((mboF r cn mn 2) 0) 720))) + (distM ((mboF r cn mn 2) 22) (jrem ((mboF r cn mn 2) 0) 720))) + (distM ((mboF r cn mn 2) 29) (jrem ((mboF r cn mn 2) 0) 720)))) => ?_)
    · refine lv_iload_n hx hb dX6_bestOil_90 rfl (lv_at hl 4 rfl) ?_
      refine lv_istore_n (lv' := [(1, .int b), (5, .int 4), (4, .int ((((0 + (distM ((mboF r cn mn 2) 8) (jrem ((mboF r cn mn 2) 0) 720))) + (distM ((mboF r cn mn 2) 15) (jrem ((mboF r cn mn 2) 0) 720))) + (distM ((mboF r cn mn 2) 22) (jrem ((mboF r cn mn 2) 0) 720))) + (distM ((mboF r cn mn 2) 29) (jrem ((mboF r cn mn 2) 0) 720)))), (3, .int 2), (2, .int u), (0, .ref (o 0))]) hx hb dX6_bestOil_91 rfl hl (by decide) rfl (fun ls hl => ?_)
      refine lv_iload_n hx hb dX6_bestOil_92 rfl (lv_at hl 3 rfl) ?_
      refine lv_if_eq (tgt := 102) hx hb dX6_bestOil_93 (by decide) (fun q9 => absurd q9 (show ¬ (2 : Int32) = 0 from (by decide))) (fun c_22 => ?_)
      refine lv_iload hx hb dX6_bestOil_96 (lv_at hl 2 rfl) ?_
      refine lv_iload_n hx hb dX6_bestOil_98 rfl (lv_at hl 4 rfl) ?_
      refine lv_icmp_ge (tgt := 107) hx hb dX6_bestOil_99 (by decide) (fun c_23 => ?_) (fun q9 => absurd (show u ≤ ((((0 + (distM ((mboF r cn mn 2) 8) (jrem ((mboF r cn mn 2) 0) 720))) + (distM ((mboF r cn mn 2) 15) (jrem ((mboF r cn mn 2) 0) 720))) + (distM ((mboF r cn mn 2) 22) (jrem ((mboF r cn mn 2) 0) 720))) + (distM ((mboF r cn mn 2) 29) (jrem ((mboF r cn mn 2) 0) 720))) from c_21) (show ¬ (u ≤ ((((0 + (distM ((mboF r cn mn 2) 8) (jrem ((mboF r cn mn 2) 0) 720))) + (distM ((mboF r cn mn 2) 15) (jrem ((mboF r cn mn 2) 0) 720))) + (distM ((mboF r cn mn 2) 22) (jrem ((mboF r cn mn 2) 0) 720))) + (distM ((mboF r cn mn 2) 29) (jrem ((mboF r cn mn 2) 0) 720)))) from q9))
      refine lv_iload_n hx hb dX6_bestOil_107 rfl (lv_at hl 4 rfl) ?_
      refine lv_istore_n (lv' := [(2, .int u), (1, .int b), (5, .int 4), (4, .int ((((0 + (distM ((mboF r cn mn 2) 8) (jrem ((mboF r cn mn 2) 0) 720))) + (distM ((mboF r cn mn 2) 15) (jrem ((mboF r cn mn 2) 0) 720))) + (distM ((mboF r cn mn 2) 22) (jrem ((mboF r cn mn 2) 0) 720))) + (distM ((mboF r cn mn 2) 29) (jrem ((mboF r cn mn 2) 0) 720)))), (3, .int 2), (0, .ref (o 0))]) hx hb dX6_bestOil_108 rfl hl (by decide) rfl (fun ls hl => ?_)
      refine lv_iinc (v := 3) (lv' := [(3, .int 3), (2, .int u), (1, .int b), (5, .int 4), (4, .int ((((0 + (distM ((mboF r cn mn 2) 8) (jrem ((mboF r cn mn 2) 0) 720))) + (distM ((mboF r cn mn 2) 15) (jrem ((mboF r cn mn 2) 0) 720))) + (distM ((mboF r cn mn 2) 22) (jrem ((mboF r cn mn 2) 0) 720))) + (distM ((mboF r cn mn 2) 29) (jrem ((mboF r cn mn 2) 0) 720)))), (0, .ref (o 0))]) hx hb dX6_bestOil_109 hl (k := 4) rfl rfl (by decide) rfl (fun ls hl => ?_)
      refine lv_goto (tgt := 6) hx hb dX6_bestOil_112 (by decide) ?_
      exact L6_3 b u (by rw [← ht]; exact (show boM r cn mn 2 2 b u = _ from if_pos (show u ≤ (dfM (mboF r cn mn 2)) from c_21)).symm) ls _ _ hP hD hS (lv_sub hl [0, 1, 2, 5] rfl)
    · refine lv_iload_n hx hb dX6_bestOil_86 rfl (lv_at hl 2 rfl) ?_
      refine lv_goto (tgt := 91) hx hb dX6_bestOil_87 (by decide) ?_
      refine lv_istore_n (lv' := [(1, .int 2), (5, .int 4), (4, .int ((((0 + (distM ((mboF r cn mn 2) 8) (jrem ((mboF r cn mn 2) 0) 720))) + (distM ((mboF r cn mn 2) 15) (jrem ((mboF r cn mn 2) 0) 720))) + (distM ((mboF r cn mn 2) 22) (jrem ((mboF r cn mn 2) 0) 720))) + (distM ((mboF r cn mn 2) 29) (jrem ((mboF r cn mn 2) 0) 720)))), (3, .int 2), (2, .int u), (0, .ref (o 0))]) hx hb dX6_bestOil_91 rfl hl (by decide) rfl (fun ls hl => ?_)
      refine lv_iload_n hx hb dX6_bestOil_92 rfl (lv_at hl 3 rfl) ?_
      refine lv_if_eq (tgt := 102) hx hb dX6_bestOil_93 (by decide) (fun q9 => absurd q9 (show ¬ (2 : Int32) = 0 from (by decide))) (fun c_24 => ?_)
      refine lv_iload hx hb dX6_bestOil_96 (lv_at hl 2 rfl) ?_
      refine lv_iload_n hx hb dX6_bestOil_98 rfl (lv_at hl 4 rfl) ?_
      refine lv_icmp_ge (tgt := 107) hx hb dX6_bestOil_99 (by decide) (fun q9 => absurd q9 (show ¬ u ≤ ((((0 + (distM ((mboF r cn mn 2) 8) (jrem ((mboF r cn mn 2) 0) 720))) + (distM ((mboF r cn mn 2) 15) (jrem ((mboF r cn mn 2) 0) 720))) + (distM ((mboF r cn mn 2) 22) (jrem ((mboF r cn mn 2) 0) 720))) + (distM ((mboF r cn mn 2) 29) (jrem ((mboF r cn mn 2) 0) 720))) from c_21)) (fun c_25 => ?_)
      refine lv_iload hx hb dX6_bestOil_102 (lv_at hl 2 rfl) ?_
      refine lv_goto (tgt := 108) hx hb dX6_bestOil_104 (by decide) ?_
      refine lv_istore_n (lv' := [(2, .int ((((0 + (distM ((mboF r cn mn 2) 8) (jrem ((mboF r cn mn 2) 0) 720))) + (distM ((mboF r cn mn 2) 15) (jrem ((mboF r cn mn 2) 0) 720))) + (distM ((mboF r cn mn 2) 22) (jrem ((mboF r cn mn 2) 0) 720))) + (distM ((mboF r cn mn 2) 29) (jrem ((mboF r cn mn 2) 0) 720)))), (1, .int 2), (5, .int 4), (4, .int ((((0 + (distM ((mboF r cn mn 2) 8) (jrem ((mboF r cn mn 2) 0) 720))) + (distM ((mboF r cn mn 2) 15) (jrem ((mboF r cn mn 2) 0) 720))) + (distM ((mboF r cn mn 2) 22) (jrem ((mboF r cn mn 2) 0) 720))) + (distM ((mboF r cn mn 2) 29) (jrem ((mboF r cn mn 2) 0) 720)))), (3, .int 2), (0, .ref (o 0))]) hx hb dX6_bestOil_108 rfl hl (by decide) rfl (fun ls hl => ?_)
      refine lv_iinc (v := 3) (lv' := [(3, .int 3), (2, .int ((((0 + (distM ((mboF r cn mn 2) 8) (jrem ((mboF r cn mn 2) 0) 720))) + (distM ((mboF r cn mn 2) 15) (jrem ((mboF r cn mn 2) 0) 720))) + (distM ((mboF r cn mn 2) 22) (jrem ((mboF r cn mn 2) 0) 720))) + (distM ((mboF r cn mn 2) 29) (jrem ((mboF r cn mn 2) 0) 720)))), (1, .int 2), (5, .int 4), (4, .int ((((0 + (distM ((mboF r cn mn 2) 8) (jrem ((mboF r cn mn 2) 0) 720))) + (distM ((mboF r cn mn 2) 15) (jrem ((mboF r cn mn 2) 0) 720))) + (distM ((mboF r cn mn 2) 22) (jrem ((mboF r cn mn 2) 0) 720))) + (distM ((mboF r cn mn 2) 29) (jrem ((mboF r cn mn 2) 0) 720)))), (0, .ref (o 0))]) hx hb dX6_bestOil_109 hl (k := 4) rfl rfl (by decide) rfl (fun ls hl => ?_)
      refine lv_goto (tgt := 6) hx hb dX6_bestOil_112 (by decide) ?_
      exact L6_3 2 (dfM (mboF r cn mn 2)) (by rw [← ht]; exact (show boM r cn mn 2 2 b u = _ from if_neg (show ¬ u ≤ (dfM (mboF r cn mn 2)) from c_21)).symm) ls _ _ hP hD hS (lv_sub hl [0, 1, 2, 5] rfl)
  have L6_1 : ∀ b u : Int32, boM r cn mn 3 1 b u = mBestOiln r cn mn → ∀ (ls : Array Slot) (H : Heap) (locs : List Loc), va_P g.1 vwCl (MW g o ((mZ r), (mP r), (mK r), (mZ r), (mB r), (mO r), (mM r), (mI r), (mY r), (mT r), (mS r), (mW r))) H → va_D A (MW g o ((mZ r), (mP r), (mK r), (mZ r), (mB r), (mO r), (mM r), (mI r), (mY r), (mT r), (mS r), (mW r))) → va_S A s.heap H locs → lv_has ls 6 [(3, .int 1), (2, .int u), (1, .int b), (0, .ref (o 0))] → W p l e (rmD 6) s m args below meth c H locs 0 0 (MQ below (QI g A (mBestOiln r cn mn) (MW g o (mas r))) args s 0 0 A) (F0 m 6 ls []) := by
    intro b u ht ls H locs hP hD hS hl
    refine lv_iload_n hx hb dX6_bestOil_6 rfl (lv_at hl 0 rfl) ?_
    refine lv_iconst (v := 4) hx hb dX6_bestOil_7 (by decide) ?_
    refine lv_icmp_ge (tgt := 115) hx hb dX6_bestOil_8 (by decide) (fun q9 => absurd q9 (show ¬ (4 : Int32) ≤ (1 : Int32) from (by decide))) (fun c_26 => ?_)
    refine lv_aload_n hx hb dX6_bestOil_11 rfl (lv_at hl 3 rfl) ?_
    refine x_goV (wn := MW g o ((mZ r), (mP r), (mK r), (mZ r), (mB r), (mO r), (mM r), (mI r), (mY r), (mT r), (mS r), (mW r))) (x_rV (As := []) X (c_X6_putAside l g o ((mZ r), (mP r), (mK r), (mZ r), (mB r), (mO r), (mM r), (mI r), (mY r), (mT r), (mS r), (mW r))   _) yf_X6_putAside yi_X6_putAside wM_X6_126 ⟨Nat.le_of_ble_eq_true rfl, Nat.le_of_ble_eq_true rfl⟩ hP hD (p_all _) 0 rfl rfl hl rfl rfl (Nat.le_of_ble_eq_true rfl) dX6_bestOil_12 ⟨Nat.zero_le _, Nat.zero_le _⟩) hP hD hS hA (p_all _) (p_back _) (fun H locs hP hD hS => ?_)
    refine lv_aload_n hx hb dX6_bestOil_15 rfl (lv_at hl 3 rfl) ?_
    refine lv_iload_n hx hb dX6_bestOil_16 rfl (lv_at hl 0 rfl) ?_
    refine x_goI (wn := MW g o ((oilM 15 (mZ r)), (mP r), (mK r), (mZ r), (mB r), (mO r), (mM r), (mI r), (mY r), (mT r), (mS r), (mW r))) (x_rV (As := [.int 1]) X (c_X6_oils_1 l g o ((mZ r), (mP r), (mK r), (mZ r), (mB r), (mO r), (mM r), (mI r), (mY r), (mT r), (mS r), (mW r))   _) yf_X6_oils yi_X6_oils wM_X6_60 ⟨Nat.le_of_ble_eq_true rfl, Nat.le_of_ble_eq_true rfl⟩ hP hD (p_all _) 0 rfl rfl hl rfl rfl (Nat.le_of_ble_eq_true rfl) dX6_bestOil_17 ⟨Nat.zero_le _, Nat.zero_le _⟩) hP hD hS hA (p_all _) (p_back _) (fun H locs hP hD hS => ?_)
    refine lv_pop hx hb dX6_bestOil_20 rfl ?_
    refine lv_aload_n hx hb dX6_bestOil_21 rfl (lv_at hl 3 rfl) ?_
    refine lv_sipush (v := 1440) hx hb dX6_bestOil_22 (by decide) ?_
    refine W.eq (g2 := F0 m 25 ls [.int (nI mn), .ref (o 0)]) (by rw [h14]) ?_
    refine x_goI (wn := MW g o (((pmsM cn mn (oilM 15 (mZ r)) 0).1), (mP r), (mK r), (mZ r), (mB r), (mO r), (mM r), (mI r), (mY r), (mT r), (mS r), (mW r))) (x_rV (As := [.int (nI mn)]) X (c_X6_passes l g o ((oilM 15 (mZ r)), (mP r), (mK r), (mZ r), (mB r), (mO r), (mM r), (mI r), (mY r), (mT r), (mS r), (mW r)) cn hc ((oilM_7 15 (mZ r) (by decide)).trans hz) mn hm  _) yf_X6_passes yi_X6_passes wM_X6_93 ⟨Nat.le_of_ble_eq_true rfl, Nat.le_of_ble_eq_true rfl⟩ hP hD (p_all _) 0 rfl rfl hl rfl rfl (Nat.le_of_ble_eq_true rfl) dX6_bestOil_25 ⟨Nat.zero_le _, Nat.zero_le _⟩) hP hD hS hA (p_all _) (p_back _) (fun H locs hP hD hS => ?_)
    refine lv_pop hx hb dX6_bestOil_28 rfl ?_
    refine lv_iconst (v := 0) hx hb dX6_bestOil_29 (by decide) ?_
    refine lv_istore (lv' := [(4, .int 0), (3, .int 1), (2, .int u), (1, .int b), (0, .ref (o 0))]) hx hb dX6_bestOil_30 hl (by decide) rfl (fun ls hl => ?_)
    have hP : va_P g.1 vwCl (MW g o ((mboF r cn mn 1), (mP r), (mK r), (mZ r), (mB r), (mO r), (mM r), (mI r), (mY r), (mT r), (mS r), (mW r))) H := hP
    have hD : va_D A (MW g o ((mboF r cn mn 1), (mP r), (mK r), (mZ r), (mB r), (mO r), (mM r), (mI r), (mY r), (mT r), (mS r), (mW r))) := hD
    refine lv_iconst (v := 0) hx hb dX6_bestOil_32 (by decide) ?_
    refine lv_istore (lv' := [(5, .int 0), (4, .int 0), (3, .int 1), (2, .int u), (1, .int b), (0, .ref (o 0))]) hx hb dX6_bestOil_33 hl (by decide) rfl (fun ls hl => ?_)
    refine lv_iload hx hb dX6_bestOil_35 (lv_at hl 0 rfl) ?_
    refine lv_iconst (v := 4) hx hb dX6_bestOil_37 (by decide) ?_
    refine lv_icmp_ge (tgt := 72) hx hb dX6_bestOil_38 (by decide) (fun q9 => absurd q9 (show ¬ (4 : Int32) ≤ (0 : Int32) from (by decide))) (fun c_27 => ?_)
    refine lv_iload hx hb dX6_bestOil_41 (lv_at hl 1 rfl) ?_
    refine lv_aload_n hx hb dX6_bestOil_43 rfl (lv_at hl 5 rfl) ?_
    refine lv_iload hx hb dX6_bestOil_44 (lv_at hl 0 rfl) ?_
    refine lv_iconst (v := 0) hx hb dX6_bestOil_46 (by decide) ?_
    refine x_goI (wn := MW g o ((mboF r cn mn 1), (mP r), (mK r), (mZ r), (mB r), (mO r), (mM r), (mI r), (mY r), (mT r), (mS r), (mW r))) (x_rV (As := [.int 0, .int 0]) X (c_X6_of l g o ((mboF r cn mn 1), (mP r), (mK r), (mZ r), (mB r), (mO r), (mM r), (mI r), (mY r), (mT r), (mS r), (mW r)) 0 0 (by decide) (by decide)  _) yf_X6_of yi_X6_of wM_X6_56 ⟨Nat.le_of_ble_eq_true rfl, Nat.le_of_ble_eq_true rfl⟩ hP hD (p_all _) 0 rfl rfl hl rfl rfl (Nat.le_of_ble_eq_true rfl) dX6_bestOil_47 ⟨Nat.zero_le _, Nat.zero_le _⟩) hP hD hS hA (p_all _) (p_back _) (fun H locs hP hD hS => ?_)
    refine lv_aload_n hx hb dX6_bestOil_50 rfl (lv_at hl 5 rfl) ?_
    refine x_get (v := .ref (o 1)) X 0 0 in_X6 hP rfl rfl (by decide) wF_X6_7 rfl rfl dX6_bestOil_51 ?_
    refine lv_iconst (v := 0) hx hb dX6_bestOil_54 (by decide) ?_
    refine x_iald (v := ((mboF r cn mn 1) 0)) X 1 0 hP rfl rfl (by decide) (Nat.le_of_ble_eq_true rfl) rfl dX6_bestOil_55 ?_
    refine lv_sipush (v := 720) hx hb dX6_bestOil_56 (by decide) ?_
    refine lv_irem hx hb dX6_bestOil_59 (by decide) ?_
    refine x_goI (wn := MW g o ((mboF r cn mn 1), (mP r), (mK r), (mZ r), (mB r), (mO r), (mM r), (mI r), (mY r), (mT r), (mS r), (mW r))) (x_rS (As := [.int ((mboF r cn mn 1) 8), .int (jrem ((mboF r cn mn 1) 0) 720)]) X (c_X6_distance l g ((mboF r cn mn 1) 8) (jrem ((mboF r cn mn 1) 0) 720) _) yf_X6_distance ys_X6_distance wM_X6_64 ⟨Nat.le_of_ble_eq_true rfl, Nat.le_of_ble_eq_true rfl⟩ hP hD (p_none _) hl rfl rfl (Nat.le_of_ble_eq_true rfl) dX6_bestOil_60 ⟨Nat.zero_le _, Nat.zero_le _⟩) hP hD hS hA (p_none _) (p_noneB _) (fun H locs hP hD hS => ?_)
    refine lv_iadd hx hb dX6_bestOil_63 ?_
    refine lv_istore (lv' := [(4, .int (0 + (distM ((mboF r cn mn 1) 8) (jrem ((mboF r cn mn 1) 0) 720)))), (5, .int 0), (3, .int 1), (2, .int u), (1, .int b), (0, .ref (o 0))]) hx hb dX6_bestOil_64 hl (by decide) rfl (fun ls hl => ?_)
    refine lv_iinc (v := 1) (lv' := [(5, .int 1), (4, .int (0 + (distM ((mboF r cn mn 1) 8) (jrem ((mboF r cn mn 1) 0) 720)))), (3, .int 1), (2, .int u), (1, .int b), (0, .ref (o 0))]) hx hb dX6_bestOil_66 hl (k := 1) rfl rfl (by decide) rfl (fun ls hl => ?_)
    refine lv_goto (tgt := 35) hx hb dX6_bestOil_69 (by decide) ?_
    refine lv_iload hx hb dX6_bestOil_35 (lv_at hl 0 rfl) ?_
    refine lv_iconst (v := 4) hx hb dX6_bestOil_37 (by decide) ?_
    refine lv_icmp_ge (tgt := 72) hx hb dX6_bestOil_38 (by decide) (fun q9 => absurd q9 (show ¬ (4 : Int32) ≤ (1 : Int32) from (by decide))) (fun c_28 => ?_)
    refine lv_iload hx hb dX6_bestOil_41 (lv_at hl 1 rfl) ?_
    refine lv_aload_n hx hb dX6_bestOil_43 rfl (lv_at hl 5 rfl) ?_
    refine lv_iload hx hb dX6_bestOil_44 (lv_at hl 0 rfl) ?_
    refine lv_iconst (v := 0) hx hb dX6_bestOil_46 (by decide) ?_
    refine x_goI (wn := MW g o ((mboF r cn mn 1), (mP r), (mK r), (mZ r), (mB r), (mO r), (mM r), (mI r), (mY r), (mT r), (mS r), (mW r))) (x_rV (As := [.int 1, .int 0]) X (c_X6_of l g o ((mboF r cn mn 1), (mP r), (mK r), (mZ r), (mB r), (mO r), (mM r), (mI r), (mY r), (mT r), (mS r), (mW r)) 1 0 (by decide) (by decide)  _) yf_X6_of yi_X6_of wM_X6_56 ⟨Nat.le_of_ble_eq_true rfl, Nat.le_of_ble_eq_true rfl⟩ hP hD (p_all _) 0 rfl rfl hl rfl rfl (Nat.le_of_ble_eq_true rfl) dX6_bestOil_47 ⟨Nat.zero_le _, Nat.zero_le _⟩) hP hD hS hA (p_all _) (p_back _) (fun H locs hP hD hS => ?_)
    refine lv_aload_n hx hb dX6_bestOil_50 rfl (lv_at hl 5 rfl) ?_
    refine x_get (v := .ref (o 1)) X 0 0 in_X6 hP rfl rfl (by decide) wF_X6_7 rfl rfl dX6_bestOil_51 ?_
    refine lv_iconst (v := 0) hx hb dX6_bestOil_54 (by decide) ?_
    refine x_iald (v := ((mboF r cn mn 1) 0)) X 1 0 hP rfl rfl (by decide) (Nat.le_of_ble_eq_true rfl) rfl dX6_bestOil_55 ?_
    refine lv_sipush (v := 720) hx hb dX6_bestOil_56 (by decide) ?_
    refine lv_irem hx hb dX6_bestOil_59 (by decide) ?_
    refine x_goI (wn := MW g o ((mboF r cn mn 1), (mP r), (mK r), (mZ r), (mB r), (mO r), (mM r), (mI r), (mY r), (mT r), (mS r), (mW r))) (x_rS (As := [.int ((mboF r cn mn 1) 15), .int (jrem ((mboF r cn mn 1) 0) 720)]) X (c_X6_distance l g ((mboF r cn mn 1) 15) (jrem ((mboF r cn mn 1) 0) 720) _) yf_X6_distance ys_X6_distance wM_X6_64 ⟨Nat.le_of_ble_eq_true rfl, Nat.le_of_ble_eq_true rfl⟩ hP hD (p_none _) hl rfl rfl (Nat.le_of_ble_eq_true rfl) dX6_bestOil_60 ⟨Nat.zero_le _, Nat.zero_le _⟩) hP hD hS hA (p_none _) (p_noneB _) (fun H locs hP hD hS => ?_)
    refine lv_iadd hx hb dX6_bestOil_63 ?_
    refine lv_istore (lv' := [(4, .int ((0 + (distM ((mboF r cn mn 1) 8) (jrem ((mboF r cn mn 1) 0) 720))) + (distM ((mboF r cn mn 1) 15) (jrem ((mboF r cn mn 1) 0) 720)))), (5, .int 1), (3, .int 1), (2, .int u), (1, .int b), (0, .ref (o 0))]) hx hb dX6_bestOil_64 hl (by decide) rfl (fun ls hl => ?_)
    refine lv_iinc (v := 2) (lv' := [(5, .int 2), (4, .int ((0 + (distM ((mboF r cn mn 1) 8) (jrem ((mboF r cn mn 1) 0) 720))) + (distM ((mboF r cn mn 1) 15) (jrem ((mboF r cn mn 1) 0) 720)))), (3, .int 1), (2, .int u), (1, .int b), (0, .ref (o 0))]) hx hb dX6_bestOil_66 hl (k := 1) rfl rfl (by decide) rfl (fun ls hl => ?_)
    refine lv_goto (tgt := 35) hx hb dX6_bestOil_69 (by decide) ?_
    refine lv_iload hx hb dX6_bestOil_35 (lv_at hl 0 rfl) ?_
    refine lv_iconst (v := 4) hx hb dX6_bestOil_37 (by decide) ?_
    refine lv_icmp_ge (tgt := 72) hx hb dX6_bestOil_38 (by decide) (fun q9 => absurd q9 (show ¬ (4 : Int32) ≤ (2 : Int32) from (by decide))) (fun c_29 => ?_)
    refine lv_iload hx hb dX6_bestOil_41 (lv_at hl 1 rfl) ?_
    refine lv_aload_n hx hb dX6_bestOil_43 rfl (lv_at hl 5 rfl) ?_
    refine lv_iload hx hb dX6_bestOil_44 (lv_at hl 0 rfl) ?_
    refine lv_iconst (v := 0) hx hb dX6_bestOil_46 (by decide) ?_
    refine x_goI (wn := MW g o ((mboF r cn mn 1), (mP r), (mK r), (mZ r), (mB r), (mO r), (mM r), (mI r), (mY r), (mT r), (mS r), (mW r))) (x_rV (As := [.int 2, .int 0]) X (c_X6_of l g o ((mboF r cn mn 1), (mP r), (mK r), (mZ r), (mB r), (mO r), (mM r), (mI r), (mY r), (mT r), (mS r), (mW r)) 2 0 (by decide) (by decide)  _) yf_X6_of yi_X6_of wM_X6_56 ⟨Nat.le_of_ble_eq_true rfl, Nat.le_of_ble_eq_true rfl⟩ hP hD (p_all _) 0 rfl rfl hl rfl rfl (Nat.le_of_ble_eq_true rfl) dX6_bestOil_47 ⟨Nat.zero_le _, Nat.zero_le _⟩) hP hD hS hA (p_all _) (p_back _) (fun H locs hP hD hS => ?_)
    refine lv_aload_n hx hb dX6_bestOil_50 rfl (lv_at hl 5 rfl) ?_
    refine x_get (v := .ref (o 1)) X 0 0 in_X6 hP rfl rfl (by decide) wF_X6_7 rfl rfl dX6_bestOil_51 ?_
    refine lv_iconst (v := 0) hx hb dX6_bestOil_54 (by decide) ?_
    refine x_iald (v := ((mboF r cn mn 1) 0)) X 1 0 hP rfl rfl (by decide) (Nat.le_of_ble_eq_true rfl) rfl dX6_bestOil_55 ?_
    refine lv_sipush (v := 720) hx hb dX6_bestOil_56 (by decide) ?_
    refine lv_irem hx hb dX6_bestOil_59 (by decide) ?_
    refine x_goI (wn := MW g o ((mboF r cn mn 1), (mP r), (mK r), (mZ r), (mB r), (mO r), (mM r), (mI r), (mY r), (mT r), (mS r), (mW r))) (x_rS (As := [.int ((mboF r cn mn 1) 22), .int (jrem ((mboF r cn mn 1) 0) 720)]) X (c_X6_distance l g ((mboF r cn mn 1) 22) (jrem ((mboF r cn mn 1) 0) 720) _) yf_X6_distance ys_X6_distance wM_X6_64 ⟨Nat.le_of_ble_eq_true rfl, Nat.le_of_ble_eq_true rfl⟩ hP hD (p_none _) hl rfl rfl (Nat.le_of_ble_eq_true rfl) dX6_bestOil_60 ⟨Nat.zero_le _, Nat.zero_le _⟩) hP hD hS hA (p_none _) (p_noneB _) (fun H locs hP hD hS => ?_)
    refine lv_iadd hx hb dX6_bestOil_63 ?_
    refine lv_istore (lv' := [(4, .int (((0 + (distM ((mboF r cn mn 1) 8) (jrem ((mboF r cn mn 1) 0) 720))) + (distM ((mboF r cn mn 1) 15) (jrem ((mboF r cn mn 1) 0) 720))) + (distM ((mboF r cn mn 1) 22) (jrem ((mboF r cn mn 1) 0) 720)))), (5, .int 2), (3, .int 1), (2, .int u), (1, .int b), (0, .ref (o 0))]) hx hb dX6_bestOil_64 hl (by decide) rfl (fun ls hl => ?_)
    refine lv_iinc (v := 3) (lv' := [(5, .int 3), (4, .int (((0 + (distM ((mboF r cn mn 1) 8) (jrem ((mboF r cn mn 1) 0) 720))) + (distM ((mboF r cn mn 1) 15) (jrem ((mboF r cn mn 1) 0) 720))) + (distM ((mboF r cn mn 1) 22) (jrem ((mboF r cn mn 1) 0) 720)))), (3, .int 1), (2, .int u), (1, .int b), (0, .ref (o 0))]) hx hb dX6_bestOil_66 hl (k := 1) rfl rfl (by decide) rfl (fun ls hl => ?_)
    refine lv_goto (tgt := 35) hx hb dX6_bestOil_69 (by decide) ?_
    refine lv_iload hx hb dX6_bestOil_35 (lv_at hl 0 rfl) ?_
    refine lv_iconst (v := 4) hx hb dX6_bestOil_37 (by decide) ?_
    refine lv_icmp_ge (tgt := 72) hx hb dX6_bestOil_38 (by decide) (fun q9 => absurd q9 (show ¬ (4 : Int32) ≤ (3 : Int32) from (by decide))) (fun c_30 => ?_)
    refine lv_iload hx hb dX6_bestOil_41 (lv_at hl 1 rfl) ?_
    refine lv_aload_n hx hb dX6_bestOil_43 rfl (lv_at hl 5 rfl) ?_
    refine lv_iload hx hb dX6_bestOil_44 (lv_at hl 0 rfl) ?_
    refine lv_iconst (v := 0) hx hb dX6_bestOil_46 (by decide) ?_
    refine x_goI (wn := MW g o ((mboF r cn mn 1), (mP r), (mK r), (mZ r), (mB r), (mO r), (mM r), (mI r), (mY r), (mT r), (mS r), (mW r))) (x_rV (As := [.int 3, .int 0]) X (c_X6_of l g o ((mboF r cn mn 1), (mP r), (mK r), (mZ r), (mB r), (mO r), (mM r), (mI r), (mY r), (mT r), (mS r), (mW r)) 3 0 (by decide) (by decide)  _) yf_X6_of yi_X6_of wM_X6_56 ⟨Nat.le_of_ble_eq_true rfl, Nat.le_of_ble_eq_true rfl⟩ hP hD (p_all _) 0 rfl rfl hl rfl rfl (Nat.le_of_ble_eq_true rfl) dX6_bestOil_47 ⟨Nat.zero_le _, Nat.zero_le _⟩) hP hD hS hA (p_all _) (p_back _) (fun H locs hP hD hS => ?_)
    refine lv_aload_n hx hb dX6_bestOil_50 rfl (lv_at hl 5 rfl) ?_
    refine x_get (v := .ref (o 1)) X 0 0 in_X6 hP rfl rfl (by decide) wF_X6_7 rfl rfl dX6_bestOil_51 ?_
    refine lv_iconst (v := 0) hx hb dX6_bestOil_54 (by decide) ?_
    refine x_iald (v := ((mboF r cn mn 1) 0)) X 1 0 hP rfl rfl (by decide) (Nat.le_of_ble_eq_true rfl) rfl dX6_bestOil_55 ?_
    refine lv_sipush (v := 720) hx hb dX6_bestOil_56 (by decide) ?_
    refine lv_irem hx hb dX6_bestOil_59 (by decide) ?_
    refine x_goI (wn := MW g o ((mboF r cn mn 1), (mP r), (mK r), (mZ r), (mB r), (mO r), (mM r), (mI r), (mY r), (mT r), (mS r), (mW r))) (x_rS (As := [.int ((mboF r cn mn 1) 29), .int (jrem ((mboF r cn mn 1) 0) 720)]) X (c_X6_distance l g ((mboF r cn mn 1) 29) (jrem ((mboF r cn mn 1) 0) 720) _) yf_X6_distance ys_X6_distance wM_X6_64 ⟨Nat.le_of_ble_eq_true rfl, Nat.le_of_ble_eq_true rfl⟩ hP hD (p_none _) hl rfl rfl (Nat.le_of_ble_eq_true rfl) dX6_bestOil_60 ⟨Nat.zero_le _, Nat.zero_le _⟩) hP hD hS hA (p_none _) (p_noneB _) (fun H locs hP hD hS => ?_)
    refine lv_iadd hx hb dX6_bestOil_63 ?_
    refine lv_istore (lv' := [(4, .int ((((0 + (distM ((mboF r cn mn 1) 8) (jrem ((mboF r cn mn 1) 0) 720))) + (distM ((mboF r cn mn 1) 15) (jrem ((mboF r cn mn 1) 0) 720))) + (distM ((mboF r cn mn 1) 22) (jrem ((mboF r cn mn 1) 0) 720))) + (distM ((mboF r cn mn 1) 29) (jrem ((mboF r cn mn 1) 0) 720)))), (5, .int 3), (3, .int 1), (2, .int u), (1, .int b), (0, .ref (o 0))]) hx hb dX6_bestOil_64 hl (by decide) rfl (fun ls hl => ?_)
    refine lv_iinc (v := 4) (lv' := [(5, .int 4), (4, .int ((((0 + (distM ((mboF r cn mn 1) 8) (jrem ((mboF r cn mn 1) 0) 720))) + (distM ((mboF r cn mn 1) 15) (jrem ((mboF r cn mn 1) 0) 720))) + (distM ((mboF r cn mn 1) 22) (jrem ((mboF r cn mn 1) 0) 720))) + (distM ((mboF r cn mn 1) 29) (jrem ((mboF r cn mn 1) 0) 720)))), (3, .int 1), (2, .int u), (1, .int b), (0, .ref (o 0))]) hx hb dX6_bestOil_66 hl (k := 1) rfl rfl (by decide) rfl (fun ls hl => ?_)
    refine lv_goto (tgt := 35) hx hb dX6_bestOil_69 (by decide) ?_
    refine lv_iload hx hb dX6_bestOil_35 (lv_at hl 0 rfl) ?_
    refine lv_iconst (v := 4) hx hb dX6_bestOil_37 (by decide) ?_
    refine lv_icmp_ge (tgt := 72) hx hb dX6_bestOil_38 (by decide) (fun c_31 => ?_) (fun q9 => absurd (show (4 : Int32) ≤ (4 : Int32) from (by decide)) (show ¬ ((4 : Int32) ≤ (4 : Int32)) from q9))
    refine lv_aload_n hx hb dX6_bestOil_72 rfl (lv_at hl 5 rfl) ?_
    refine x_goV (wn := MW g o ((mZ r), (mP r), (mK r), (mZ r), (mB r), (mO r), (mM r), (mI r), (mY r), (mT r), (mS r), (mW r))) (x_rV (As := []) X (c_X6_takeBack l g o ((mboF r cn mn 1), (mP r), (mK r), (mZ r), (mB r), (mO r), (mM r), (mI r), (mY r), (mT r), (mS r), (mW r))   _) yf_X6_takeBack yi_X6_takeBack wM_X6_129 ⟨Nat.le_of_ble_eq_true rfl, Nat.le_of_ble_eq_true rfl⟩ hP hD (p_all _) 0 rfl rfl hl rfl rfl (Nat.le_of_ble_eq_true rfl) dX6_bestOil_73 ⟨Nat.zero_le _, Nat.zero_le _⟩) hP hD hS hA (p_all _) (p_back _) (fun H locs hP hD hS => ?_)
    refine lv_iload_n hx hb dX6_bestOil_76 rfl (lv_at hl 2 rfl) ?_
    refine lv_if_le (tgt := 90) hx hb dX6_bestOil_77 (by decide) (fun q9 => absurd q9 (show ¬ (1 : Int32) ≤ 0 from (by decide))) (fun c_32 => ?_)
    refine lv_iload hx hb dX6_bestOil_80 (lv_at hl 1 rfl) ?_
    refine lv_iload_n hx hb dX6_bestOil_82 rfl (lv_at hl 3 rfl) ?_
    refine lv_icmp_ge (tgt := 90) hx hb dX6_bestOil_83 (by decide) (fun (c_33 : u ≤ ((((0 + (distM ((mboF r cn mn 1) 8) (jrem ((mboF r cn mn 1) 0) 720))) + (distM ((mboF r cn mn 1) 15) (jrem ((mboF r cn mn 1) 0) 720))) + (distM ((mboF r cn mn 1) 22) (jrem ((mboF r cn mn 1) 0) 720))) + (distM ((mboF r cn mn 1) 29) (jrem ((mboF r cn mn 1) 0) 720)))) => ?_) (fun (c_33 : ¬ u ≤ ((((0 + (distM ((mboF r cn mn 1) 8) (jrem ((mboF r cn mn 1) 0) 720))) + (distM ((mboF r cn mn 1) 15) (jrem ((mboF r cn mn 1) 0) 720))) + (distM ((mboF r cn mn 1) 22) (jrem ((mboF r cn mn 1) 0) 720))) + (distM ((mboF r cn mn 1) 29) (jrem ((mboF r cn mn 1) 0) 720)))) => ?_)
    · refine lv_iload_n hx hb dX6_bestOil_90 rfl (lv_at hl 4 rfl) ?_
      refine lv_istore_n (lv' := [(1, .int b), (5, .int 4), (4, .int ((((0 + (distM ((mboF r cn mn 1) 8) (jrem ((mboF r cn mn 1) 0) 720))) + (distM ((mboF r cn mn 1) 15) (jrem ((mboF r cn mn 1) 0) 720))) + (distM ((mboF r cn mn 1) 22) (jrem ((mboF r cn mn 1) 0) 720))) + (distM ((mboF r cn mn 1) 29) (jrem ((mboF r cn mn 1) 0) 720)))), (3, .int 1), (2, .int u), (0, .ref (o 0))]) hx hb dX6_bestOil_91 rfl hl (by decide) rfl (fun ls hl => ?_)
      refine lv_iload_n hx hb dX6_bestOil_92 rfl (lv_at hl 3 rfl) ?_
      refine lv_if_eq (tgt := 102) hx hb dX6_bestOil_93 (by decide) (fun q9 => absurd q9 (show ¬ (1 : Int32) = 0 from (by decide))) (fun c_34 => ?_)
      refine lv_iload hx hb dX6_bestOil_96 (lv_at hl 2 rfl) ?_
      refine lv_iload_n hx hb dX6_bestOil_98 rfl (lv_at hl 4 rfl) ?_
      refine lv_icmp_ge (tgt := 107) hx hb dX6_bestOil_99 (by decide) (fun c_35 => ?_) (fun q9 => absurd (show u ≤ ((((0 + (distM ((mboF r cn mn 1) 8) (jrem ((mboF r cn mn 1) 0) 720))) + (distM ((mboF r cn mn 1) 15) (jrem ((mboF r cn mn 1) 0) 720))) + (distM ((mboF r cn mn 1) 22) (jrem ((mboF r cn mn 1) 0) 720))) + (distM ((mboF r cn mn 1) 29) (jrem ((mboF r cn mn 1) 0) 720))) from c_33) (show ¬ (u ≤ ((((0 + (distM ((mboF r cn mn 1) 8) (jrem ((mboF r cn mn 1) 0) 720))) + (distM ((mboF r cn mn 1) 15) (jrem ((mboF r cn mn 1) 0) 720))) + (distM ((mboF r cn mn 1) 22) (jrem ((mboF r cn mn 1) 0) 720))) + (distM ((mboF r cn mn 1) 29) (jrem ((mboF r cn mn 1) 0) 720)))) from q9))
      refine lv_iload_n hx hb dX6_bestOil_107 rfl (lv_at hl 4 rfl) ?_
      refine lv_istore_n (lv' := [(2, .int u), (1, .int b), (5, .int 4), (4, .int ((((0 + (distM ((mboF r cn mn 1) 8) (jrem ((mboF r cn mn 1) 0) 720))) + (distM ((mboF r cn mn 1) 15) (jrem ((mboF r cn mn 1) 0) 720))) + (distM ((mboF r cn mn 1) 22) (jrem ((mboF r cn mn 1) 0) 720))) + (distM ((mboF r cn mn 1) 29) (jrem ((mboF r cn mn 1) 0) 720)))), (3, .int 1), (0, .ref (o 0))]) hx hb dX6_bestOil_108 rfl hl (by decide) rfl (fun ls hl => ?_)
      refine lv_iinc (v := 2) (lv' := [(3, .int 2), (2, .int u), (1, .int b), (5, .int 4), (4, .int ((((0 + (distM ((mboF r cn mn 1) 8) (jrem ((mboF r cn mn 1) 0) 720))) + (distM ((mboF r cn mn 1) 15) (jrem ((mboF r cn mn 1) 0) 720))) + (distM ((mboF r cn mn 1) 22) (jrem ((mboF r cn mn 1) 0) 720))) + (distM ((mboF r cn mn 1) 29) (jrem ((mboF r cn mn 1) 0) 720)))), (0, .ref (o 0))]) hx hb dX6_bestOil_109 hl (k := 4) rfl rfl (by decide) rfl (fun ls hl => ?_)
      refine lv_goto (tgt := 6) hx hb dX6_bestOil_112 (by decide) ?_
      exact L6_2 b u (by rw [← ht]; exact (show boM r cn mn 3 1 b u = _ from if_pos (show u ≤ (dfM (mboF r cn mn 1)) from c_33)).symm) ls _ _ hP hD hS (lv_sub hl [0, 1, 2, 5] rfl)
    · refine lv_iload_n hx hb dX6_bestOil_86 rfl (lv_at hl 2 rfl) ?_
      refine lv_goto (tgt := 91) hx hb dX6_bestOil_87 (by decide) ?_
      refine lv_istore_n (lv' := [(1, .int 1), (5, .int 4), (4, .int ((((0 + (distM ((mboF r cn mn 1) 8) (jrem ((mboF r cn mn 1) 0) 720))) + (distM ((mboF r cn mn 1) 15) (jrem ((mboF r cn mn 1) 0) 720))) + (distM ((mboF r cn mn 1) 22) (jrem ((mboF r cn mn 1) 0) 720))) + (distM ((mboF r cn mn 1) 29) (jrem ((mboF r cn mn 1) 0) 720)))), (3, .int 1), (2, .int u), (0, .ref (o 0))]) hx hb dX6_bestOil_91 rfl hl (by decide) rfl (fun ls hl => ?_)
      refine lv_iload_n hx hb dX6_bestOil_92 rfl (lv_at hl 3 rfl) ?_
      refine lv_if_eq (tgt := 102) hx hb dX6_bestOil_93 (by decide) (fun q9 => absurd q9 (show ¬ (1 : Int32) = 0 from (by decide))) (fun c_36 => ?_)
      refine lv_iload hx hb dX6_bestOil_96 (lv_at hl 2 rfl) ?_
      refine lv_iload_n hx hb dX6_bestOil_98 rfl (lv_at hl 4 rfl) ?_
      refine lv_icmp_ge (tgt := 107) hx hb dX6_bestOil_99 (by decide) (fun q9 => absurd q9 (show ¬ u ≤ ((((0 + (distM ((mboF r cn mn 1) 8) (jrem ((mboF r cn mn 1) 0) 720))) + (distM ((mboF r cn mn 1) 15) (jrem ((mboF r cn mn 1) 0) 720))) + (distM ((mboF r cn mn 1) 22) (jrem ((mboF r cn mn 1) 0) 720))) + (distM ((mboF r cn mn 1) 29) (jrem ((mboF r cn mn 1) 0) 720))) from c_33)) (fun c_37 => ?_)
      refine lv_iload hx hb dX6_bestOil_102 (lv_at hl 2 rfl) ?_
      refine lv_goto (tgt := 108) hx hb dX6_bestOil_104 (by decide) ?_
      refine lv_istore_n (lv' := [(2, .int ((((0 + (distM ((mboF r cn mn 1) 8) (jrem ((mboF r cn mn 1) 0) 720))) + (distM ((mboF r cn mn 1) 15) (jrem ((mboF r cn mn 1) 0) 720))) + (distM ((mboF r cn mn 1) 22) (jrem ((mboF r cn mn 1) 0) 720))) + (distM ((mboF r cn mn 1) 29) (jrem ((mboF r cn mn 1) 0) 720)))), (1, .int 1), (5, .int 4), (4, .int ((((0 + (distM ((mboF r cn mn 1) 8) (jrem ((mboF r cn mn 1) 0) 720))) + (distM ((mboF r cn mn 1) 15) (jrem ((mboF r cn mn 1) 0) 720))) + (distM ((mboF r cn mn 1) 22) (jrem ((mboF r cn mn 1) 0) 720))) + (distM ((mboF r cn mn 1) 29) (jrem ((mboF r cn mn 1) 0) 720)))), (3, .int 1), (0, .ref (o 0))]) hx hb dX6_bestOil_108 rfl hl (by decide) rfl (fun ls hl => ?_)
      refine lv_iinc (v := 2) (lv' := [(3, .int 2), (2, .int ((((0 + (distM ((mboF r cn mn 1) 8) (jrem ((mboF r cn mn 1) 0) 720))) + (distM ((mboF r cn mn 1) 15) (jrem ((mboF r cn mn 1) 0) 720))) + (distM ((mboF r cn mn 1) 22) (jrem ((mboF r cn mn 1) 0) 720))) + (distM ((mboF r cn mn 1) 29) (jrem ((mboF r cn mn 1) 0) 720)))), (1, .int 1), (5, .int 4), (4, .int ((((0 + (distM ((mboF r cn mn 1) 8) (jrem ((mboF r cn mn 1) 0) 720))) + (distM ((mboF r cn mn 1) 15) (jrem ((mboF r cn mn 1) 0) 720))) + (distM ((mboF r cn mn 1) 22) (jrem ((mboF r cn mn 1) 0) 720))) + (distM ((mboF r cn mn 1) 29) (jrem ((mboF r cn mn 1) 0) 720)))), (0, .ref (o 0))]) hx hb dX6_bestOil_109 hl (k := 4) rfl rfl (by decide) rfl (fun ls hl => ?_)
      refine lv_goto (tgt := 6) hx hb dX6_bestOil_112 (by decide) ?_
      exact L6_2 1 (dfM (mboF r cn mn 1)) (by rw [← ht]; exact (show boM r cn mn 3 1 b u = _ from if_neg (show ¬ u ≤ (dfM (mboF r cn mn 1)) from c_33)).symm) ls _ _ hP hD hS (lv_sub hl [0, 1, 2, 5] rfl)
  refine lv_iload_n hx hb dX6_bestOil_6 rfl (lv_at hl 0 rfl) ?_
  refine lv_iconst (v := 4) hx hb dX6_bestOil_7 (by decide) ?_
  refine lv_icmp_ge (tgt := 115) hx hb dX6_bestOil_8 (by decide) (fun q9 => absurd q9 (show ¬ (4 : Int32) ≤ (0 : Int32) from (by decide))) (fun c_38 => ?_)
  refine lv_aload_n hx hb dX6_bestOil_11 rfl (lv_at hl 3 rfl) ?_
  refine x_goV (wn := MW g o ((mZ r), (mP r), (mK r), (mZ r), (mB r), (mO r), (mM r), (mI r), (mY r), (mT r), (mS r), (mW r))) (x_rV (As := []) X (c_X6_putAside l g o r   _) yf_X6_putAside yi_X6_putAside wM_X6_126 ⟨Nat.le_of_ble_eq_true rfl, Nat.le_of_ble_eq_true rfl⟩ hP hD (p_all _) 0 rfl rfl hl rfl rfl (Nat.le_of_ble_eq_true rfl) dX6_bestOil_12 ⟨Nat.zero_le _, Nat.zero_le _⟩) hP hD hS hA (p_all _) (p_back _) (fun H locs hP hD hS => ?_)
  refine lv_aload_n hx hb dX6_bestOil_15 rfl (lv_at hl 3 rfl) ?_
  refine lv_iload_n hx hb dX6_bestOil_16 rfl (lv_at hl 0 rfl) ?_
  refine x_goI (wn := MW g o ((oilM 8 (mZ r)), (mP r), (mK r), (mZ r), (mB r), (mO r), (mM r), (mI r), (mY r), (mT r), (mS r), (mW r))) (x_rV (As := [.int 0]) X (c_X6_oils_0 l g o ((mZ r), (mP r), (mK r), (mZ r), (mB r), (mO r), (mM r), (mI r), (mY r), (mT r), (mS r), (mW r))   _) yf_X6_oils yi_X6_oils wM_X6_60 ⟨Nat.le_of_ble_eq_true rfl, Nat.le_of_ble_eq_true rfl⟩ hP hD (p_all _) 0 rfl rfl hl rfl rfl (Nat.le_of_ble_eq_true rfl) dX6_bestOil_17 ⟨Nat.zero_le _, Nat.zero_le _⟩) hP hD hS hA (p_all _) (p_back _) (fun H locs hP hD hS => ?_)
  refine lv_pop hx hb dX6_bestOil_20 rfl ?_
  refine lv_aload_n hx hb dX6_bestOil_21 rfl (lv_at hl 3 rfl) ?_
  refine lv_sipush (v := 1440) hx hb dX6_bestOil_22 (by decide) ?_
  refine W.eq (g2 := F0 m 25 ls [.int (nI mn), .ref (o 0)]) (by rw [h14]) ?_
  refine x_goI (wn := MW g o (((pmsM cn mn (oilM 8 (mZ r)) 0).1), (mP r), (mK r), (mZ r), (mB r), (mO r), (mM r), (mI r), (mY r), (mT r), (mS r), (mW r))) (x_rV (As := [.int (nI mn)]) X (c_X6_passes l g o ((oilM 8 (mZ r)), (mP r), (mK r), (mZ r), (mB r), (mO r), (mM r), (mI r), (mY r), (mT r), (mS r), (mW r)) cn hc ((oilM_7 8 (mZ r) (by decide)).trans hz) mn hm  _) yf_X6_passes yi_X6_passes wM_X6_93 ⟨Nat.le_of_ble_eq_true rfl, Nat.le_of_ble_eq_true rfl⟩ hP hD (p_all _) 0 rfl rfl hl rfl rfl (Nat.le_of_ble_eq_true rfl) dX6_bestOil_25 ⟨Nat.zero_le _, Nat.zero_le _⟩) hP hD hS hA (p_all _) (p_back _) (fun H locs hP hD hS => ?_)
  refine lv_pop hx hb dX6_bestOil_28 rfl ?_
  refine lv_iconst (v := 0) hx hb dX6_bestOil_29 (by decide) ?_
  refine lv_istore (lv' := [(4, .int 0), (3, .int 0), (2, .int 0), (1, .int 0), (0, .ref (o 0))]) hx hb dX6_bestOil_30 hl (by decide) rfl (fun ls hl => ?_)
  have hP : va_P g.1 vwCl (MW g o ((mboF r cn mn 0), (mP r), (mK r), (mZ r), (mB r), (mO r), (mM r), (mI r), (mY r), (mT r), (mS r), (mW r))) H := hP
  have hD : va_D A (MW g o ((mboF r cn mn 0), (mP r), (mK r), (mZ r), (mB r), (mO r), (mM r), (mI r), (mY r), (mT r), (mS r), (mW r))) := hD
  refine lv_iconst (v := 0) hx hb dX6_bestOil_32 (by decide) ?_
  refine lv_istore (lv' := [(5, .int 0), (4, .int 0), (3, .int 0), (2, .int 0), (1, .int 0), (0, .ref (o 0))]) hx hb dX6_bestOil_33 hl (by decide) rfl (fun ls hl => ?_)
  refine lv_iload hx hb dX6_bestOil_35 (lv_at hl 0 rfl) ?_
  refine lv_iconst (v := 4) hx hb dX6_bestOil_37 (by decide) ?_
  refine lv_icmp_ge (tgt := 72) hx hb dX6_bestOil_38 (by decide) (fun q9 => absurd q9 (show ¬ (4 : Int32) ≤ (0 : Int32) from (by decide))) (fun c_39 => ?_)
  refine lv_iload hx hb dX6_bestOil_41 (lv_at hl 1 rfl) ?_
  refine lv_aload_n hx hb dX6_bestOil_43 rfl (lv_at hl 5 rfl) ?_
  refine lv_iload hx hb dX6_bestOil_44 (lv_at hl 0 rfl) ?_
  refine lv_iconst (v := 0) hx hb dX6_bestOil_46 (by decide) ?_
  refine x_goI (wn := MW g o ((mboF r cn mn 0), (mP r), (mK r), (mZ r), (mB r), (mO r), (mM r), (mI r), (mY r), (mT r), (mS r), (mW r))) (x_rV (As := [.int 0, .int 0]) X (c_X6_of l g o ((mboF r cn mn 0), (mP r), (mK r), (mZ r), (mB r), (mO r), (mM r), (mI r), (mY r), (mT r), (mS r), (mW r)) 0 0 (by decide) (by decide)  _) yf_X6_of yi_X6_of wM_X6_56 ⟨Nat.le_of_ble_eq_true rfl, Nat.le_of_ble_eq_true rfl⟩ hP hD (p_all _) 0 rfl rfl hl rfl rfl (Nat.le_of_ble_eq_true rfl) dX6_bestOil_47 ⟨Nat.zero_le _, Nat.zero_le _⟩) hP hD hS hA (p_all _) (p_back _) (fun H locs hP hD hS => ?_)
  refine lv_aload_n hx hb dX6_bestOil_50 rfl (lv_at hl 5 rfl) ?_
  refine x_get (v := .ref (o 1)) X 0 0 in_X6 hP rfl rfl (by decide) wF_X6_7 rfl rfl dX6_bestOil_51 ?_
  refine lv_iconst (v := 0) hx hb dX6_bestOil_54 (by decide) ?_
  refine x_iald (v := ((mboF r cn mn 0) 0)) X 1 0 hP rfl rfl (by decide) (Nat.le_of_ble_eq_true rfl) rfl dX6_bestOil_55 ?_
  refine lv_sipush (v := 720) hx hb dX6_bestOil_56 (by decide) ?_
  refine lv_irem hx hb dX6_bestOil_59 (by decide) ?_
  refine x_goI (wn := MW g o ((mboF r cn mn 0), (mP r), (mK r), (mZ r), (mB r), (mO r), (mM r), (mI r), (mY r), (mT r), (mS r), (mW r))) (x_rS (As := [.int ((mboF r cn mn 0) 8), .int (jrem ((mboF r cn mn 0) 0) 720)]) X (c_X6_distance l g ((mboF r cn mn 0) 8) (jrem ((mboF r cn mn 0) 0) 720) _) yf_X6_distance ys_X6_distance wM_X6_64 ⟨Nat.le_of_ble_eq_true rfl, Nat.le_of_ble_eq_true rfl⟩ hP hD (p_none _) hl rfl rfl (Nat.le_of_ble_eq_true rfl) dX6_bestOil_60 ⟨Nat.zero_le _, Nat.zero_le _⟩) hP hD hS hA (p_none _) (p_noneB _) (fun H locs hP hD hS => ?_)
  refine lv_iadd hx hb dX6_bestOil_63 ?_
  refine lv_istore (lv' := [(4, .int (0 + (distM ((mboF r cn mn 0) 8) (jrem ((mboF r cn mn 0) 0) 720)))), (5, .int 0), (3, .int 0), (2, .int 0), (1, .int 0), (0, .ref (o 0))]) hx hb dX6_bestOil_64 hl (by decide) rfl (fun ls hl => ?_)
  refine lv_iinc (v := 1) (lv' := [(5, .int 1), (4, .int (0 + (distM ((mboF r cn mn 0) 8) (jrem ((mboF r cn mn 0) 0) 720)))), (3, .int 0), (2, .int 0), (1, .int 0), (0, .ref (o 0))]) hx hb dX6_bestOil_66 hl (k := 1) rfl rfl (by decide) rfl (fun ls hl => ?_)
  refine lv_goto (tgt := 35) hx hb dX6_bestOil_69 (by decide) ?_
  refine lv_iload hx hb dX6_bestOil_35 (lv_at hl 0 rfl) ?_
  refine lv_iconst (v := 4) hx hb dX6_bestOil_37 (by decide) ?_
  refine lv_icmp_ge (tgt := 72) hx hb dX6_bestOil_38 (by decide) (fun q9 => absurd q9 (show ¬ (4 : Int32) ≤ (1 : Int32) from (by decide))) (fun c_40 => ?_)
  refine lv_iload hx hb dX6_bestOil_41 (lv_at hl 1 rfl) ?_
  refine lv_aload_n hx hb dX6_bestOil_43 rfl (lv_at hl 5 rfl) ?_
  refine lv_iload hx hb dX6_bestOil_44 (lv_at hl 0 rfl) ?_
  refine lv_iconst (v := 0) hx hb dX6_bestOil_46 (by decide) ?_
  refine x_goI (wn := MW g o ((mboF r cn mn 0), (mP r), (mK r), (mZ r), (mB r), (mO r), (mM r), (mI r), (mY r), (mT r), (mS r), (mW r))) (x_rV (As := [.int 1, .int 0]) X (c_X6_of l g o ((mboF r cn mn 0), (mP r), (mK r), (mZ r), (mB r), (mO r), (mM r), (mI r), (mY r), (mT r), (mS r), (mW r)) 1 0 (by decide) (by decide)  _) yf_X6_of yi_X6_of wM_X6_56 ⟨Nat.le_of_ble_eq_true rfl, Nat.le_of_ble_eq_true rfl⟩ hP hD (p_all _) 0 rfl rfl hl rfl rfl (Nat.le_of_ble_eq_true rfl) dX6_bestOil_47 ⟨Nat.zero_le _, Nat.zero_le _⟩) hP hD hS hA (p_all _) (p_back _) (fun H locs hP hD hS => ?_)
  refine lv_aload_n hx hb dX6_bestOil_50 rfl (lv_at hl 5 rfl) ?_
  refine x_get (v := .ref (o 1)) X 0 0 in_X6 hP rfl rfl (by decide) wF_X6_7 rfl rfl dX6_bestOil_51 ?_
  refine lv_iconst (v := 0) hx hb dX6_bestOil_54 (by decide) ?_
  refine x_iald (v := ((mboF r cn mn 0) 0)) X 1 0 hP rfl rfl (by decide) (Nat.le_of_ble_eq_true rfl) rfl dX6_bestOil_55 ?_
  refine lv_sipush (v := 720) hx hb dX6_bestOil_56 (by decide) ?_
  refine lv_irem hx hb dX6_bestOil_59 (by decide) ?_
  refine x_goI (wn := MW g o ((mboF r cn mn 0), (mP r), (mK r), (mZ r), (mB r), (mO r), (mM r), (mI r), (mY r), (mT r), (mS r), (mW r))) (x_rS (As := [.int ((mboF r cn mn 0) 15), .int (jrem ((mboF r cn mn 0) 0) 720)]) X (c_X6_distance l g ((mboF r cn mn 0) 15) (jrem ((mboF r cn mn 0) 0) 720) _) yf_X6_distance ys_X6_distance wM_X6_64 ⟨Nat.le_of_ble_eq_true rfl, Nat.le_of_ble_eq_true rfl⟩ hP hD (p_none _) hl rfl rfl (Nat.le_of_ble_eq_true rfl) dX6_bestOil_60 ⟨Nat.zero_le _, Nat.zero_le _⟩) hP hD hS hA (p_none _) (p_noneB _) (fun H locs hP hD hS => ?_)
  refine lv_iadd hx hb dX6_bestOil_63 ?_
  refine lv_istore (lv' := [(4, .int ((0 + (distM ((mboF r cn mn 0) 8) (jrem ((mboF r cn mn 0) 0) 720))) + (distM ((mboF r cn mn 0) 15) (jrem ((mboF r cn mn 0) 0) 720)))), (5, .int 1), (3, .int 0), (2, .int 0), (1, .int 0), (0, .ref (o 0))]) hx hb dX6_bestOil_64 hl (by decide) rfl (fun ls hl => ?_)
  refine lv_iinc (v := 2) (lv' := [(5, .int 2), (4, .int ((0 + (distM ((mboF r cn mn 0) 8) (jrem ((mboF r cn mn 0) 0) 720))) + (distM ((mboF r cn mn 0) 15) (jrem ((mboF r cn mn 0) 0) 720)))), (3, .int 0), (2, .int 0), (1, .int 0), (0, .ref (o 0))]) hx hb dX6_bestOil_66 hl (k := 1) rfl rfl (by decide) rfl (fun ls hl => ?_)
  refine lv_goto (tgt := 35) hx hb dX6_bestOil_69 (by decide) ?_
  refine lv_iload hx hb dX6_bestOil_35 (lv_at hl 0 rfl) ?_
  refine lv_iconst (v := 4) hx hb dX6_bestOil_37 (by decide) ?_
  refine lv_icmp_ge (tgt := 72) hx hb dX6_bestOil_38 (by decide) (fun q9 => absurd q9 (show ¬ (4 : Int32) ≤ (2 : Int32) from (by decide))) (fun c_41 => ?_)
  refine lv_iload hx hb dX6_bestOil_41 (lv_at hl 1 rfl) ?_
  refine lv_aload_n hx hb dX6_bestOil_43 rfl (lv_at hl 5 rfl) ?_
  refine lv_iload hx hb dX6_bestOil_44 (lv_at hl 0 rfl) ?_
  refine lv_iconst (v := 0) hx hb dX6_bestOil_46 (by decide) ?_
  refine x_goI (wn := MW g o ((mboF r cn mn 0), (mP r), (mK r), (mZ r), (mB r), (mO r), (mM r), (mI r), (mY r), (mT r), (mS r), (mW r))) (x_rV (As := [.int 2, .int 0]) X (c_X6_of l g o ((mboF r cn mn 0), (mP r), (mK r), (mZ r), (mB r), (mO r), (mM r), (mI r), (mY r), (mT r), (mS r), (mW r)) 2 0 (by decide) (by decide)  _) yf_X6_of yi_X6_of wM_X6_56 ⟨Nat.le_of_ble_eq_true rfl, Nat.le_of_ble_eq_true rfl⟩ hP hD (p_all _) 0 rfl rfl hl rfl rfl (Nat.le_of_ble_eq_true rfl) dX6_bestOil_47 ⟨Nat.zero_le _, Nat.zero_le _⟩) hP hD hS hA (p_all _) (p_back _) (fun H locs hP hD hS => ?_)
  refine lv_aload_n hx hb dX6_bestOil_50 rfl (lv_at hl 5 rfl) ?_
  refine x_get (v := .ref (o 1)) X 0 0 in_X6 hP rfl rfl (by decide) wF_X6_7 rfl rfl dX6_bestOil_51 ?_
  refine lv_iconst (v := 0) hx hb dX6_bestOil_54 (by decide) ?_
  refine x_iald (v := ((mboF r cn mn 0) 0)) X 1 0 hP rfl rfl (by decide) (Nat.le_of_ble_eq_true rfl) rfl dX6_bestOil_55 ?_
  refine lv_sipush (v := 720) hx hb dX6_bestOil_56 (by decide) ?_
  refine lv_irem hx hb dX6_bestOil_59 (by decide) ?_
  refine x_goI (wn := MW g o ((mboF r cn mn 0), (mP r), (mK r), (mZ r), (mB r), (mO r), (mM r), (mI r), (mY r), (mT r), (mS r), (mW r))) (x_rS (As := [.int ((mboF r cn mn 0) 22), .int (jrem ((mboF r cn mn 0) 0) 720)]) X (c_X6_distance l g ((mboF r cn mn 0) 22) (jrem ((mboF r cn mn 0) 0) 720) _) yf_X6_distance ys_X6_distance wM_X6_64 ⟨Nat.le_of_ble_eq_true rfl, Nat.le_of_ble_eq_true rfl⟩ hP hD (p_none _) hl rfl rfl (Nat.le_of_ble_eq_true rfl) dX6_bestOil_60 ⟨Nat.zero_le _, Nat.zero_le _⟩) hP hD hS hA (p_none _) (p_noneB _) (fun H locs hP hD hS => ?_)
  refine lv_iadd hx hb dX6_bestOil_63 ?_
  refine lv_istore (lv' := [(4, .int (((0 + (distM ((mboF r cn mn 0) 8) (jrem ((mboF r cn mn 0) 0) 720))) + (distM ((mboF r cn mn 0) 15) (jrem ((mboF r cn mn 0) 0) 720))) + (distM ((mboF r cn mn 0) 22) (jrem ((mboF r cn mn 0) 0) 720)))), (5, .int 2), (3, .int 0), (2, .int 0), (1, .int 0), (0, .ref (o 0))]) hx hb dX6_bestOil_64 hl (by decide) rfl (fun ls hl => ?_)
  refine lv_iinc (v := 3) (lv' := [(5, .int 3), (4, .int (((0 + (distM ((mboF r cn mn 0) 8) (jrem ((mboF r cn mn 0) 0) 720))) + (distM ((mboF r cn mn 0) 15) (jrem ((mboF r cn mn 0) 0) 720))) + (distM ((mboF r cn mn 0) 22) (jrem ((mboF r cn mn 0) 0) 720)))), (3, .int 0), (2, .int 0), (1, .int 0), (0, .ref (o 0))]) hx hb dX6_bestOil_66 hl (k := 1) rfl rfl (by decide) rfl (fun ls hl => ?_)
  refine lv_goto (tgt := 35) hx hb dX6_bestOil_69 (by decide) ?_
  refine lv_iload hx hb dX6_bestOil_35 (lv_at hl 0 rfl) ?_
  refine lv_iconst (v := 4) hx hb dX6_bestOil_37 (by decide) ?_
  refine lv_icmp_ge (tgt := 72) hx hb dX6_bestOil_38 (by decide) (fun q9 => absurd q9 (show ¬ (4 : Int32) ≤ (3 : Int32) from (by decide))) (fun c_42 => ?_)
  refine lv_iload hx hb dX6_bestOil_41 (lv_at hl 1 rfl) ?_
  refine lv_aload_n hx hb dX6_bestOil_43 rfl (lv_at hl 5 rfl) ?_
  refine lv_iload hx hb dX6_bestOil_44 (lv_at hl 0 rfl) ?_
  refine lv_iconst (v := 0) hx hb dX6_bestOil_46 (by decide) ?_
  refine x_goI (wn := MW g o ((mboF r cn mn 0), (mP r), (mK r), (mZ r), (mB r), (mO r), (mM r), (mI r), (mY r), (mT r), (mS r), (mW r))) (x_rV (As := [.int 3, .int 0]) X (c_X6_of l g o ((mboF r cn mn 0), (mP r), (mK r), (mZ r), (mB r), (mO r), (mM r), (mI r), (mY r), (mT r), (mS r), (mW r)) 3 0 (by decide) (by decide)  _) yf_X6_of yi_X6_of wM_X6_56 ⟨Nat.le_of_ble_eq_true rfl, Nat.le_of_ble_eq_true rfl⟩ hP hD (p_all _) 0 rfl rfl hl rfl rfl (Nat.le_of_ble_eq_true rfl) dX6_bestOil_47 ⟨Nat.zero_le _, Nat.zero_le _⟩) hP hD hS hA (p_all _) (p_back _) (fun H locs hP hD hS => ?_)
  refine lv_aload_n hx hb dX6_bestOil_50 rfl (lv_at hl 5 rfl) ?_
  refine x_get (v := .ref (o 1)) X 0 0 in_X6 hP rfl rfl (by decide) wF_X6_7 rfl rfl dX6_bestOil_51 ?_
  refine lv_iconst (v := 0) hx hb dX6_bestOil_54 (by decide) ?_
  refine x_iald (v := ((mboF r cn mn 0) 0)) X 1 0 hP rfl rfl (by decide) (Nat.le_of_ble_eq_true rfl) rfl dX6_bestOil_55 ?_
  refine lv_sipush (v := 720) hx hb dX6_bestOil_56 (by decide) ?_
  refine lv_irem hx hb dX6_bestOil_59 (by decide) ?_
  refine x_goI (wn := MW g o ((mboF r cn mn 0), (mP r), (mK r), (mZ r), (mB r), (mO r), (mM r), (mI r), (mY r), (mT r), (mS r), (mW r))) (x_rS (As := [.int ((mboF r cn mn 0) 29), .int (jrem ((mboF r cn mn 0) 0) 720)]) X (c_X6_distance l g ((mboF r cn mn 0) 29) (jrem ((mboF r cn mn 0) 0) 720) _) yf_X6_distance ys_X6_distance wM_X6_64 ⟨Nat.le_of_ble_eq_true rfl, Nat.le_of_ble_eq_true rfl⟩ hP hD (p_none _) hl rfl rfl (Nat.le_of_ble_eq_true rfl) dX6_bestOil_60 ⟨Nat.zero_le _, Nat.zero_le _⟩) hP hD hS hA (p_none _) (p_noneB _) (fun H locs hP hD hS => ?_)
  refine lv_iadd hx hb dX6_bestOil_63 ?_
  refine lv_istore (lv' := [(4, .int ((((0 + (distM ((mboF r cn mn 0) 8) (jrem ((mboF r cn mn 0) 0) 720))) + (distM ((mboF r cn mn 0) 15) (jrem ((mboF r cn mn 0) 0) 720))) + (distM ((mboF r cn mn 0) 22) (jrem ((mboF r cn mn 0) 0) 720))) + (distM ((mboF r cn mn 0) 29) (jrem ((mboF r cn mn 0) 0) 720)))), (5, .int 3), (3, .int 0), (2, .int 0), (1, .int 0), (0, .ref (o 0))]) hx hb dX6_bestOil_64 hl (by decide) rfl (fun ls hl => ?_)
  refine lv_iinc (v := 4) (lv' := [(5, .int 4), (4, .int ((((0 + (distM ((mboF r cn mn 0) 8) (jrem ((mboF r cn mn 0) 0) 720))) + (distM ((mboF r cn mn 0) 15) (jrem ((mboF r cn mn 0) 0) 720))) + (distM ((mboF r cn mn 0) 22) (jrem ((mboF r cn mn 0) 0) 720))) + (distM ((mboF r cn mn 0) 29) (jrem ((mboF r cn mn 0) 0) 720)))), (3, .int 0), (2, .int 0), (1, .int 0), (0, .ref (o 0))]) hx hb dX6_bestOil_66 hl (k := 1) rfl rfl (by decide) rfl (fun ls hl => ?_)
  refine lv_goto (tgt := 35) hx hb dX6_bestOil_69 (by decide) ?_
  refine lv_iload hx hb dX6_bestOil_35 (lv_at hl 0 rfl) ?_
  refine lv_iconst (v := 4) hx hb dX6_bestOil_37 (by decide) ?_
  refine lv_icmp_ge (tgt := 72) hx hb dX6_bestOil_38 (by decide) (fun c_43 => ?_) (fun q9 => absurd (show (4 : Int32) ≤ (4 : Int32) from (by decide)) (show ¬ ((4 : Int32) ≤ (4 : Int32)) from q9))
  refine lv_aload_n hx hb dX6_bestOil_72 rfl (lv_at hl 5 rfl) ?_
  refine x_goV (wn := MW g o ((mZ r), (mP r), (mK r), (mZ r), (mB r), (mO r), (mM r), (mI r), (mY r), (mT r), (mS r), (mW r))) (x_rV (As := []) X (c_X6_takeBack l g o ((mboF r cn mn 0), (mP r), (mK r), (mZ r), (mB r), (mO r), (mM r), (mI r), (mY r), (mT r), (mS r), (mW r))   _) yf_X6_takeBack yi_X6_takeBack wM_X6_129 ⟨Nat.le_of_ble_eq_true rfl, Nat.le_of_ble_eq_true rfl⟩ hP hD (p_all _) 0 rfl rfl hl rfl rfl (Nat.le_of_ble_eq_true rfl) dX6_bestOil_73 ⟨Nat.zero_le _, Nat.zero_le _⟩) hP hD hS hA (p_all _) (p_back _) (fun H locs hP hD hS => ?_)
  refine lv_iload_n hx hb dX6_bestOil_76 rfl (lv_at hl 2 rfl) ?_
  refine lv_if_le (tgt := 90) hx hb dX6_bestOil_77 (by decide) (fun c_44 => ?_) (fun q9 => absurd (show (0 : Int32) ≤ 0 from (by decide)) (show ¬ ((0 : Int32) ≤ 0) from q9))
  refine lv_iload_n hx hb dX6_bestOil_90 rfl (lv_at hl 4 rfl) ?_
  refine lv_istore_n (lv' := [(1, .int 0), (5, .int 4), (4, .int ((((0 + (distM ((mboF r cn mn 0) 8) (jrem ((mboF r cn mn 0) 0) 720))) + (distM ((mboF r cn mn 0) 15) (jrem ((mboF r cn mn 0) 0) 720))) + (distM ((mboF r cn mn 0) 22) (jrem ((mboF r cn mn 0) 0) 720))) + (distM ((mboF r cn mn 0) 29) (jrem ((mboF r cn mn 0) 0) 720)))), (3, .int 0), (2, .int 0), (0, .ref (o 0))]) hx hb dX6_bestOil_91 rfl hl (by decide) rfl (fun ls hl => ?_)
  refine lv_iload_n hx hb dX6_bestOil_92 rfl (lv_at hl 3 rfl) ?_
  refine lv_if_eq (tgt := 102) hx hb dX6_bestOil_93 (by decide) (fun c_45 => ?_) (fun q9 => absurd (show (0 : Int32) = 0 from (by decide)) (show ¬ ((0 : Int32) = 0) from q9))
  refine lv_iload hx hb dX6_bestOil_102 (lv_at hl 2 rfl) ?_
  refine lv_goto (tgt := 108) hx hb dX6_bestOil_104 (by decide) ?_
  refine lv_istore_n (lv' := [(2, .int ((((0 + (distM ((mboF r cn mn 0) 8) (jrem ((mboF r cn mn 0) 0) 720))) + (distM ((mboF r cn mn 0) 15) (jrem ((mboF r cn mn 0) 0) 720))) + (distM ((mboF r cn mn 0) 22) (jrem ((mboF r cn mn 0) 0) 720))) + (distM ((mboF r cn mn 0) 29) (jrem ((mboF r cn mn 0) 0) 720)))), (1, .int 0), (5, .int 4), (4, .int ((((0 + (distM ((mboF r cn mn 0) 8) (jrem ((mboF r cn mn 0) 0) 720))) + (distM ((mboF r cn mn 0) 15) (jrem ((mboF r cn mn 0) 0) 720))) + (distM ((mboF r cn mn 0) 22) (jrem ((mboF r cn mn 0) 0) 720))) + (distM ((mboF r cn mn 0) 29) (jrem ((mboF r cn mn 0) 0) 720)))), (3, .int 0), (0, .ref (o 0))]) hx hb dX6_bestOil_108 rfl hl (by decide) rfl (fun ls hl => ?_)
  refine lv_iinc (v := 1) (lv' := [(3, .int 1), (2, .int ((((0 + (distM ((mboF r cn mn 0) 8) (jrem ((mboF r cn mn 0) 0) 720))) + (distM ((mboF r cn mn 0) 15) (jrem ((mboF r cn mn 0) 0) 720))) + (distM ((mboF r cn mn 0) 22) (jrem ((mboF r cn mn 0) 0) 720))) + (distM ((mboF r cn mn 0) 29) (jrem ((mboF r cn mn 0) 0) 720)))), (1, .int 0), (5, .int 4), (4, .int ((((0 + (distM ((mboF r cn mn 0) 8) (jrem ((mboF r cn mn 0) 0) 720))) + (distM ((mboF r cn mn 0) 15) (jrem ((mboF r cn mn 0) 0) 720))) + (distM ((mboF r cn mn 0) 22) (jrem ((mboF r cn mn 0) 0) 720))) + (distM ((mboF r cn mn 0) 29) (jrem ((mboF r cn mn 0) 0) 720)))), (0, .ref (o 0))]) hx hb dX6_bestOil_109 hl (k := 4) rfl rfl (by decide) rfl (fun ls hl => ?_)
  refine lv_goto (tgt := 6) hx hb dX6_bestOil_112 (by decide) ?_
  exact L6_1 0 (dfM (mboF r cn mn 0)) rfl ls _ _ hP hD hS (lv_sub hl [0, 1, 2, 5] rfl)

def rsL (due tol : Int32) : Nat → Nat → (Nat → Int32) → Int32 → (Nat → Int32) × Int32
  | 0, _, z, q => (z, q)
  | n + 1, o, z, q => if distC (z o) due ≤ tol then rsL due tol n (o + 7) z q else rsL due tol n (o + 7) (upd (upd z o due) (o + 2) 0) (q + 1)
def rsZ (cn : Nat) (z sf wf sg : Nat → Int32) : Nat → Int32 := if tok cn z sf wf = -1000 then z else upd (rsL (tok cn z sf wf) (sg 1) 4 8 z 0).1 6 ((rsL (tok cn z sf wf) (sg 1) 4 8 z 0).1 6 + (rsL (tok cn z sf wf) (sg 1) 4 8 z 0).2)
def rsR (cn : Nat) (z sf wf sg : Nat → Int32) : Int32 := if tok cn z sf wf = -1000 then 0 else (rsL (tok cn z sf wf) (sg 1) 4 8 z 0).2
set_option maxHeartbeats 4000000 in
set_option maxRecDepth 100000 in
theorem c_X3_resetFaces (l : Launch) (g : wG) (t : Nat → Nat) (z sf wf sg : Nat → Int32) (cn : Nat) (hc : cn ≤ 6) (hz : z 7 = nI cn) : CtI l g 2 yX3_resetFaces cX3_resetFaces 7 (some .int) [.ref (t 0)] (TW g t z sf wf sg) (rsR cn z sf wf sg) (TW g t (rsZ cn z sf wf sg) sf wf sg) := by
  intro sz
  refine x_enter (Qc := fun A => QI g A (rsR cn z sf wf sg) (TW g t (rsZ cn z sf wf sg) sf wf sg)) (by decide) (Nat.le_of_ble_eq_true rfl) ?_
  intro p e s m args below meth c X hr hlocks A hA hP hD hS ls hl
  obtain ⟨⟨hx, hb, hml, hown, hts⟩, hK, hN⟩ := id X
  have hl : lv_has ls 7 [(0, .ref (t 0))] := hl
  refine lv_aload_n hx hb dX3_resetFaces_0 rfl (lv_at hl 0 rfl) ?_
  refine x_goI (wn := TW g t z sf wf sg) (x_rV (As := []) X (c_X3_timeOfKeeper l g t z sf wf sg cn hc hz _) yf_X3_timeOfKeeper yi_X3_timeOfKeeper wM_X3_99 ⟨Nat.le_of_ble_eq_true rfl, Nat.le_of_ble_eq_true rfl⟩ hP hD (p_all _) 0 rfl rfl hl rfl rfl (Nat.le_of_ble_eq_true rfl) dX3_resetFaces_1 ⟨Nat.zero_le _, Nat.zero_le _⟩) hP hD hS hA (p_all _) (p_back _) (fun H locs hP hD hS => ?_)
  refine lv_istore_n (lv' := [(1, .int (tok cn z sf wf)), (0, .ref (t 0))]) hx hb dX3_resetFaces_4 rfl hl (by decide) rfl (fun ls hl => ?_)
  refine lv_iload_n hx hb dX3_resetFaces_5 rfl (lv_at hl 0 rfl) ?_
  refine lv_sipush (v := (-1000)) hx hb dX3_resetFaces_6 (by decide) ?_
  refine lv_icmp_ne (tgt := 14) hx hb dX3_resetFaces_9 (by decide) (fun (c_1 : ¬ (tok cn z sf wf) = (-1000)) => ?_) (fun (c_1 : (tok cn z sf wf) = (-1000)) => ?_)
  · refine lv_iconst (v := 0) hx hb dX3_resetFaces_14 (by decide) ?_
    refine lv_istore_n (lv' := [(2, .int 0), (1, .int (tok cn z sf wf)), (0, .ref (t 0))]) hx hb dX3_resetFaces_15 rfl hl (by decide) rfl (fun ls hl => ?_)
    refine lv_aload_n hx hb dX3_resetFaces_16 rfl (lv_at hl 2 rfl) ?_
    refine x_get (v := .ref (t 1)) X 0 0 in_X3 hP rfl rfl (by decide) wF_X3_11 rfl rfl dX3_resetFaces_17 ?_
    refine lv_astore_n (lv' := [(3, .ref (t 1)), (2, .int 0), (1, .int (tok cn z sf wf)), (0, .ref (t 0))]) hx hb dX3_resetFaces_20 rfl hl (by decide) rfl (fun ls hl => ?_)
    refine lv_aload_n hx hb dX3_resetFaces_21 rfl (lv_at hl 0 rfl) ?_
    refine x_alen (v := 4) X 1 2 hP rfl rfl rfl dX3_resetFaces_22 ?_
    refine lv_istore (lv' := [(4, .int 4), (3, .ref (t 1)), (2, .int 0), (1, .int (tok cn z sf wf)), (0, .ref (t 0))]) hx hb dX3_resetFaces_23 hl (by decide) rfl (fun ls hl => ?_)
    refine lv_iconst (v := 0) hx hb dX3_resetFaces_25 (by decide) ?_
    refine lv_istore (lv' := [(5, .int 0), (4, .int 4), (3, .ref (t 1)), (2, .int 0), (1, .int (tok cn z sf wf)), (0, .ref (t 0))]) hx hb dX3_resetFaces_26 hl (by decide) rfl (fun ls hl => ?_)
    have L28_4 : ∀ (y : Nat → Int32) (q : Int32), rsL (tok cn z sf wf) (sg 1) 0 36 y q = rsL (tok cn z sf wf) (sg 1) 4 8 z 0 → ∀ (ls : Array Slot) (H : Heap) (locs : List Loc), va_P g.1 vwCl (TW g t y sf wf sg) H → va_D A (TW g t y sf wf sg) → va_S A s.heap H locs → lv_has ls 7 [(5, .int 4), (4, .int 4), (3, .ref (t 1)), (2, .int q), (1, .int (tok cn z sf wf)), (0, .ref (t 0))] → W p l e (rmD 2) s m args below meth c H locs 0 0 (MQ below (QI g A (rsR cn z sf wf sg) (TW g t (rsZ cn z sf wf sg) sf wf sg)) args s 0 0 A) (F0 m 28 ls []) := by
      intro y q ht ls H locs hP hD hS hl
      refine lv_iload hx hb dX3_resetFaces_28 (lv_at hl 0 rfl) ?_
      refine lv_iload hx hb dX3_resetFaces_30 (lv_at hl 1 rfl) ?_
      refine lv_icmp_ge (tgt := 80) hx hb dX3_resetFaces_32 (by decide) (fun c_2 => ?_) (fun q9 => absurd (show (4 : Int32) ≤ (4 : Int32) from (by decide)) (show ¬ ((4 : Int32) ≤ (4 : Int32)) from q9))
      refine lv_aload_n hx hb dX3_resetFaces_80 rfl (lv_at hl 5 rfl) ?_
      refine lv_dup hx hb dX3_resetFaces_81 rfl ?_
      refine x_get (v := .int (y 6)) X 0 6 in_X3 hP rfl rfl (by decide) wF_X3_57 rfl rfl dX3_resetFaces_82 ?_
      refine lv_iload_n hx hb dX3_resetFaces_85 rfl (lv_at hl 3 rfl) ?_
      refine lv_iadd hx hb dX3_resetFaces_86 ?_
      refine x_put (v := .int ((y 6) + q)) (ty0 := tyX3) (ws2 := TW g t (upd y 6 ((y 6) + q)) sf wf sg) X 0 6 in_X3 tyX3_ok nmX3 hP hD hS rfl rfl (by decide) wF_X3_57 rfl rfl rfl rfl (Nat.le_of_ble_eq_true rfl) rfl dX3_resetFaces_87 (fun H locs hP hD hS => ?_)
      refine lv_iload_n hx hb dX3_resetFaces_90 rfl (lv_at hl 3 rfl) ?_
      have E : (TW g t (upd y 6 ((y 6) + q)) sf wf sg : va_W) = TW g t (rsZ cn z sf wf sg) sf wf sg := by simp only [rsZ, if_neg c_1]; rw [← ht]; rfl
      exact x_iret X hr hlocks (pw E hP) (dw E hD) hS (by simp only [rsR, if_neg c_1]; rw [← ht]; rfl) dX3_resetFaces_91
    have L28_3 : ∀ (y : Nat → Int32) (q : Int32), rsL (tok cn z sf wf) (sg 1) 1 29 y q = rsL (tok cn z sf wf) (sg 1) 4 8 z 0 → ∀ (ls : Array Slot) (H : Heap) (locs : List Loc), va_P g.1 vwCl (TW g t y sf wf sg) H → va_D A (TW g t y sf wf sg) → va_S A s.heap H locs → lv_has ls 7 [(5, .int 3), (4, .int 4), (3, .ref (t 1)), (2, .int q), (1, .int (tok cn z sf wf)), (0, .ref (t 0))] → W p l e (rmD 2) s m args below meth c H locs 0 0 (MQ below (QI g A (rsR cn z sf wf sg) (TW g t (rsZ cn z sf wf sg) sf wf sg)) args s 0 0 A) (F0 m 28 ls []) := by
      intro y q ht ls H locs hP hD hS hl
      refine lv_iload hx hb dX3_resetFaces_28 (lv_at hl 0 rfl) ?_
      refine lv_iload hx hb dX3_resetFaces_30 (lv_at hl 1 rfl) ?_
      refine lv_icmp_ge (tgt := 80) hx hb dX3_resetFaces_32 (by decide) (fun q9 => absurd q9 (show ¬ (4 : Int32) ≤ (3 : Int32) from (by decide))) (fun c_3 => ?_)
      refine lv_aload_n hx hb dX3_resetFaces_35 rfl (lv_at hl 2 rfl) ?_
      refine lv_iload hx hb dX3_resetFaces_36 (lv_at hl 0 rfl) ?_
      refine x_aald (v := .ref (t 5)) X 1 2 3 hP rfl rfl rfl (by decide) (Nat.le_of_ble_eq_true rfl) rfl dX3_resetFaces_38 ?_
      refine lv_astore (lv' := [(6, .ref (t 5)), (5, .int 3), (4, .int 4), (3, .ref (t 1)), (2, .int q), (1, .int (tok cn z sf wf)), (0, .ref (t 0))]) hx hb dX3_resetFaces_39 hl (by decide) rfl (fun ls hl => ?_)
      refine lv_aload hx hb dX3_resetFaces_41 (lv_at hl 0 rfl) ?_
      refine x_get (v := .int (y 29)) X 5 0 in_X0 hP rfl rfl (by decide) wF_X3_102 rfl rfl dX3_resetFaces_43 ?_
      refine lv_iload_n hx hb dX3_resetFaces_46 rfl (lv_at hl 5 rfl) ?_
      refine x_goI (wn := TW g t y sf wf sg) (x_rN (As := [.int (y 29), .int (tok cn z sf wf)]) X (c_X5_distance l g (y 29) (tok cn z sf wf) _) yf_X5_distance ys_X5_distance hN.2.2.1 ⟨Nat.le_of_ble_eq_true rfl, Nat.le_of_ble_eq_true rfl⟩ hP hD (p_none _) hl rfl rfl (Nat.le_of_ble_eq_true rfl) dX3_resetFaces_47 ⟨Nat.zero_le _, Nat.zero_le _⟩) hP hD hS hA (p_none _) (p_noneB _) (fun H locs hP hD hS => ?_)
      refine lv_aload_n hx hb dX3_resetFaces_50 rfl (lv_at hl 6 rfl) ?_
      refine x_get (v := .ref (t 9)) X 0 2 in_X3 hP rfl rfl (by decide) wF_X3_24 rfl rfl dX3_resetFaces_51 ?_
      refine lv_iconst (v := 1) hx hb dX3_resetFaces_54 (by decide) ?_
      refine x_iald (v := (sg 1)) X 9 1 hP rfl rfl (by decide) (Nat.le_of_ble_eq_true rfl) rfl dX3_resetFaces_55 ?_
      refine lv_icmp_le (tgt := 74) hx hb dX3_resetFaces_56 (by decide) (fun (c_4 : (distC (y 29) (tok cn z sf wf)) ≤ (sg 1)) => ?_) (fun (c_4 : ¬ (distC (y 29) (tok cn z sf wf)) ≤ (sg 1)) => ?_)
      · refine lv_iinc (v := 4) (lv' := [(5, .int 4), (6, .ref (t 5)), (4, .int 4), (3, .ref (t 1)), (2, .int q), (1, .int (tok cn z sf wf)), (0, .ref (t 0))]) hx hb dX3_resetFaces_74 hl (k := 1) rfl rfl (by decide) rfl (fun ls hl => ?_)
        refine lv_goto (tgt := 28) hx hb dX3_resetFaces_77 (by decide) ?_
        exact L28_4 y q (by rw [← ht]; simp only [rsL, if_pos c_4]) ls _ _ hP hD hS (lv_sub hl [0, 2, 3, 4, 5, 6] rfl)
      · refine lv_aload hx hb dX3_resetFaces_59 (lv_at hl 0 rfl) ?_
        refine lv_iload_n hx hb dX3_resetFaces_61 rfl (lv_at hl 5 rfl) ?_
        refine x_put (v := .int (tok cn z sf wf)) (ty0 := tyX0) (ws2 := TW g t (upd y 29 (tok cn z sf wf)) sf wf sg) X 5 0 in_X0 tyX0_ok nmX0 hP hD hS rfl rfl (by decide) wF_X3_102 rfl rfl rfl rfl (Nat.le_of_ble_eq_true rfl) rfl dX3_resetFaces_62 (fun H locs hP hD hS => ?_)
        refine lv_aload hx hb dX3_resetFaces_65 (lv_at hl 0 rfl) ?_
        refine lv_iconst (v := 0) hx hb dX3_resetFaces_67 (by decide) ?_
        refine x_put (v := .int 0) (ty0 := tyX0) (ws2 := TW g t (upd (upd y 29 (tok cn z sf wf)) 31 0) sf wf sg) X 5 2 in_X0 tyX0_ok nmX0 hP hD hS rfl rfl (by decide) wF_X3_108 rfl rfl rfl rfl (Nat.le_of_ble_eq_true rfl) rfl dX3_resetFaces_68 (fun H locs hP hD hS => ?_)
        refine lv_iinc (v := (q + 1)) (lv' := [(2, .int (q + 1)), (6, .ref (t 5)), (5, .int 3), (4, .int 4), (3, .ref (t 1)), (1, .int (tok cn z sf wf)), (0, .ref (t 0))]) hx hb dX3_resetFaces_71 hl (k := 4) rfl rfl (by decide) rfl (fun ls hl => ?_)
        refine lv_iinc (v := 4) (lv' := [(5, .int 4), (2, .int (q + 1)), (6, .ref (t 5)), (4, .int 4), (3, .ref (t 1)), (1, .int (tok cn z sf wf)), (0, .ref (t 0))]) hx hb dX3_resetFaces_74 hl (k := 2) rfl rfl (by decide) rfl (fun ls hl => ?_)
        refine lv_goto (tgt := 28) hx hb dX3_resetFaces_77 (by decide) ?_
        exact L28_4 (upd (upd y 29 (tok cn z sf wf)) 31 0) (q + 1) (by rw [← ht]; simp only [rsL, if_neg c_4]) ls _ _ hP hD hS (lv_sub hl [0, 3, 4, 1, 5, 6] rfl)
    have L28_2 : ∀ (y : Nat → Int32) (q : Int32), rsL (tok cn z sf wf) (sg 1) 2 22 y q = rsL (tok cn z sf wf) (sg 1) 4 8 z 0 → ∀ (ls : Array Slot) (H : Heap) (locs : List Loc), va_P g.1 vwCl (TW g t y sf wf sg) H → va_D A (TW g t y sf wf sg) → va_S A s.heap H locs → lv_has ls 7 [(5, .int 2), (4, .int 4), (3, .ref (t 1)), (2, .int q), (1, .int (tok cn z sf wf)), (0, .ref (t 0))] → W p l e (rmD 2) s m args below meth c H locs 0 0 (MQ below (QI g A (rsR cn z sf wf sg) (TW g t (rsZ cn z sf wf sg) sf wf sg)) args s 0 0 A) (F0 m 28 ls []) := by
      intro y q ht ls H locs hP hD hS hl
      refine lv_iload hx hb dX3_resetFaces_28 (lv_at hl 0 rfl) ?_
      refine lv_iload hx hb dX3_resetFaces_30 (lv_at hl 1 rfl) ?_
      refine lv_icmp_ge (tgt := 80) hx hb dX3_resetFaces_32 (by decide) (fun q9 => absurd q9 (show ¬ (4 : Int32) ≤ (2 : Int32) from (by decide))) (fun c_5 => ?_)
      refine lv_aload_n hx hb dX3_resetFaces_35 rfl (lv_at hl 2 rfl) ?_
      refine lv_iload hx hb dX3_resetFaces_36 (lv_at hl 0 rfl) ?_
      refine x_aald (v := .ref (t 4)) X 1 2 2 hP rfl rfl rfl (by decide) (Nat.le_of_ble_eq_true rfl) rfl dX3_resetFaces_38 ?_
      refine lv_astore (lv' := [(6, .ref (t 4)), (5, .int 2), (4, .int 4), (3, .ref (t 1)), (2, .int q), (1, .int (tok cn z sf wf)), (0, .ref (t 0))]) hx hb dX3_resetFaces_39 hl (by decide) rfl (fun ls hl => ?_)
      refine lv_aload hx hb dX3_resetFaces_41 (lv_at hl 0 rfl) ?_
      refine x_get (v := .int (y 22)) X 4 0 in_X0 hP rfl rfl (by decide) wF_X3_102 rfl rfl dX3_resetFaces_43 ?_
      refine lv_iload_n hx hb dX3_resetFaces_46 rfl (lv_at hl 5 rfl) ?_
      refine x_goI (wn := TW g t y sf wf sg) (x_rN (As := [.int (y 22), .int (tok cn z sf wf)]) X (c_X5_distance l g (y 22) (tok cn z sf wf) _) yf_X5_distance ys_X5_distance hN.2.2.1 ⟨Nat.le_of_ble_eq_true rfl, Nat.le_of_ble_eq_true rfl⟩ hP hD (p_none _) hl rfl rfl (Nat.le_of_ble_eq_true rfl) dX3_resetFaces_47 ⟨Nat.zero_le _, Nat.zero_le _⟩) hP hD hS hA (p_none _) (p_noneB _) (fun H locs hP hD hS => ?_)
      refine lv_aload_n hx hb dX3_resetFaces_50 rfl (lv_at hl 6 rfl) ?_
      refine x_get (v := .ref (t 9)) X 0 2 in_X3 hP rfl rfl (by decide) wF_X3_24 rfl rfl dX3_resetFaces_51 ?_
      refine lv_iconst (v := 1) hx hb dX3_resetFaces_54 (by decide) ?_
      refine x_iald (v := (sg 1)) X 9 1 hP rfl rfl (by decide) (Nat.le_of_ble_eq_true rfl) rfl dX3_resetFaces_55 ?_
      refine lv_icmp_le (tgt := 74) hx hb dX3_resetFaces_56 (by decide) (fun (c_6 : (distC (y 22) (tok cn z sf wf)) ≤ (sg 1)) => ?_) (fun (c_6 : ¬ (distC (y 22) (tok cn z sf wf)) ≤ (sg 1)) => ?_)
      · refine lv_iinc (v := 3) (lv' := [(5, .int 3), (6, .ref (t 4)), (4, .int 4), (3, .ref (t 1)), (2, .int q), (1, .int (tok cn z sf wf)), (0, .ref (t 0))]) hx hb dX3_resetFaces_74 hl (k := 1) rfl rfl (by decide) rfl (fun ls hl => ?_)
        refine lv_goto (tgt := 28) hx hb dX3_resetFaces_77 (by decide) ?_
        exact L28_3 y q (by rw [← ht]; simp only [rsL, if_pos c_6]) ls _ _ hP hD hS (lv_sub hl [0, 2, 3, 4, 5, 6] rfl)
      · refine lv_aload hx hb dX3_resetFaces_59 (lv_at hl 0 rfl) ?_
        refine lv_iload_n hx hb dX3_resetFaces_61 rfl (lv_at hl 5 rfl) ?_
        refine x_put (v := .int (tok cn z sf wf)) (ty0 := tyX0) (ws2 := TW g t (upd y 22 (tok cn z sf wf)) sf wf sg) X 4 0 in_X0 tyX0_ok nmX0 hP hD hS rfl rfl (by decide) wF_X3_102 rfl rfl rfl rfl (Nat.le_of_ble_eq_true rfl) rfl dX3_resetFaces_62 (fun H locs hP hD hS => ?_)
        refine lv_aload hx hb dX3_resetFaces_65 (lv_at hl 0 rfl) ?_
        refine lv_iconst (v := 0) hx hb dX3_resetFaces_67 (by decide) ?_
        refine x_put (v := .int 0) (ty0 := tyX0) (ws2 := TW g t (upd (upd y 22 (tok cn z sf wf)) 24 0) sf wf sg) X 4 2 in_X0 tyX0_ok nmX0 hP hD hS rfl rfl (by decide) wF_X3_108 rfl rfl rfl rfl (Nat.le_of_ble_eq_true rfl) rfl dX3_resetFaces_68 (fun H locs hP hD hS => ?_)
        refine lv_iinc (v := (q + 1)) (lv' := [(2, .int (q + 1)), (6, .ref (t 4)), (5, .int 2), (4, .int 4), (3, .ref (t 1)), (1, .int (tok cn z sf wf)), (0, .ref (t 0))]) hx hb dX3_resetFaces_71 hl (k := 4) rfl rfl (by decide) rfl (fun ls hl => ?_)
        refine lv_iinc (v := 3) (lv' := [(5, .int 3), (2, .int (q + 1)), (6, .ref (t 4)), (4, .int 4), (3, .ref (t 1)), (1, .int (tok cn z sf wf)), (0, .ref (t 0))]) hx hb dX3_resetFaces_74 hl (k := 2) rfl rfl (by decide) rfl (fun ls hl => ?_)
        refine lv_goto (tgt := 28) hx hb dX3_resetFaces_77 (by decide) ?_
        exact L28_3 (upd (upd y 22 (tok cn z sf wf)) 24 0) (q + 1) (by rw [← ht]; simp only [rsL, if_neg c_6]) ls _ _ hP hD hS (lv_sub hl [0, 3, 4, 1, 5, 6] rfl)
    have L28_1 : ∀ (y : Nat → Int32) (q : Int32), rsL (tok cn z sf wf) (sg 1) 3 15 y q = rsL (tok cn z sf wf) (sg 1) 4 8 z 0 → ∀ (ls : Array Slot) (H : Heap) (locs : List Loc), va_P g.1 vwCl (TW g t y sf wf sg) H → va_D A (TW g t y sf wf sg) → va_S A s.heap H locs → lv_has ls 7 [(5, .int 1), (4, .int 4), (3, .ref (t 1)), (2, .int q), (1, .int (tok cn z sf wf)), (0, .ref (t 0))] → W p l e (rmD 2) s m args below meth c H locs 0 0 (MQ below (QI g A (rsR cn z sf wf sg) (TW g t (rsZ cn z sf wf sg) sf wf sg)) args s 0 0 A) (F0 m 28 ls []) := by
      intro y q ht ls H locs hP hD hS hl
      refine lv_iload hx hb dX3_resetFaces_28 (lv_at hl 0 rfl) ?_
      refine lv_iload hx hb dX3_resetFaces_30 (lv_at hl 1 rfl) ?_
      refine lv_icmp_ge (tgt := 80) hx hb dX3_resetFaces_32 (by decide) (fun q9 => absurd q9 (show ¬ (4 : Int32) ≤ (1 : Int32) from (by decide))) (fun c_7 => ?_)
      refine lv_aload_n hx hb dX3_resetFaces_35 rfl (lv_at hl 2 rfl) ?_
      refine lv_iload hx hb dX3_resetFaces_36 (lv_at hl 0 rfl) ?_
      refine x_aald (v := .ref (t 3)) X 1 2 1 hP rfl rfl rfl (by decide) (Nat.le_of_ble_eq_true rfl) rfl dX3_resetFaces_38 ?_
      refine lv_astore (lv' := [(6, .ref (t 3)), (5, .int 1), (4, .int 4), (3, .ref (t 1)), (2, .int q), (1, .int (tok cn z sf wf)), (0, .ref (t 0))]) hx hb dX3_resetFaces_39 hl (by decide) rfl (fun ls hl => ?_)
      refine lv_aload hx hb dX3_resetFaces_41 (lv_at hl 0 rfl) ?_
      refine x_get (v := .int (y 15)) X 3 0 in_X0 hP rfl rfl (by decide) wF_X3_102 rfl rfl dX3_resetFaces_43 ?_
      refine lv_iload_n hx hb dX3_resetFaces_46 rfl (lv_at hl 5 rfl) ?_
      refine x_goI (wn := TW g t y sf wf sg) (x_rN (As := [.int (y 15), .int (tok cn z sf wf)]) X (c_X5_distance l g (y 15) (tok cn z sf wf) _) yf_X5_distance ys_X5_distance hN.2.2.1 ⟨Nat.le_of_ble_eq_true rfl, Nat.le_of_ble_eq_true rfl⟩ hP hD (p_none _) hl rfl rfl (Nat.le_of_ble_eq_true rfl) dX3_resetFaces_47 ⟨Nat.zero_le _, Nat.zero_le _⟩) hP hD hS hA (p_none _) (p_noneB _) (fun H locs hP hD hS => ?_)
      refine lv_aload_n hx hb dX3_resetFaces_50 rfl (lv_at hl 6 rfl) ?_
      refine x_get (v := .ref (t 9)) X 0 2 in_X3 hP rfl rfl (by decide) wF_X3_24 rfl rfl dX3_resetFaces_51 ?_
      refine lv_iconst (v := 1) hx hb dX3_resetFaces_54 (by decide) ?_
      refine x_iald (v := (sg 1)) X 9 1 hP rfl rfl (by decide) (Nat.le_of_ble_eq_true rfl) rfl dX3_resetFaces_55 ?_
      refine lv_icmp_le (tgt := 74) hx hb dX3_resetFaces_56 (by decide) (fun (c_8 : (distC (y 15) (tok cn z sf wf)) ≤ (sg 1)) => ?_) (fun (c_8 : ¬ (distC (y 15) (tok cn z sf wf)) ≤ (sg 1)) => ?_)
      · refine lv_iinc (v := 2) (lv' := [(5, .int 2), (6, .ref (t 3)), (4, .int 4), (3, .ref (t 1)), (2, .int q), (1, .int (tok cn z sf wf)), (0, .ref (t 0))]) hx hb dX3_resetFaces_74 hl (k := 1) rfl rfl (by decide) rfl (fun ls hl => ?_)
        refine lv_goto (tgt := 28) hx hb dX3_resetFaces_77 (by decide) ?_
        exact L28_2 y q (by rw [← ht]; simp only [rsL, if_pos c_8]) ls _ _ hP hD hS (lv_sub hl [0, 2, 3, 4, 5, 6] rfl)
      · refine lv_aload hx hb dX3_resetFaces_59 (lv_at hl 0 rfl) ?_
        refine lv_iload_n hx hb dX3_resetFaces_61 rfl (lv_at hl 5 rfl) ?_
        refine x_put (v := .int (tok cn z sf wf)) (ty0 := tyX0) (ws2 := TW g t (upd y 15 (tok cn z sf wf)) sf wf sg) X 3 0 in_X0 tyX0_ok nmX0 hP hD hS rfl rfl (by decide) wF_X3_102 rfl rfl rfl rfl (Nat.le_of_ble_eq_true rfl) rfl dX3_resetFaces_62 (fun H locs hP hD hS => ?_)
        refine lv_aload hx hb dX3_resetFaces_65 (lv_at hl 0 rfl) ?_
        refine lv_iconst (v := 0) hx hb dX3_resetFaces_67 (by decide) ?_
        refine x_put (v := .int 0) (ty0 := tyX0) (ws2 := TW g t (upd (upd y 15 (tok cn z sf wf)) 17 0) sf wf sg) X 3 2 in_X0 tyX0_ok nmX0 hP hD hS rfl rfl (by decide) wF_X3_108 rfl rfl rfl rfl (Nat.le_of_ble_eq_true rfl) rfl dX3_resetFaces_68 (fun H locs hP hD hS => ?_)
        refine lv_iinc (v := (q + 1)) (lv' := [(2, .int (q + 1)), (6, .ref (t 3)), (5, .int 1), (4, .int 4), (3, .ref (t 1)), (1, .int (tok cn z sf wf)), (0, .ref (t 0))]) hx hb dX3_resetFaces_71 hl (k := 4) rfl rfl (by decide) rfl (fun ls hl => ?_)
        refine lv_iinc (v := 2) (lv' := [(5, .int 2), (2, .int (q + 1)), (6, .ref (t 3)), (4, .int 4), (3, .ref (t 1)), (1, .int (tok cn z sf wf)), (0, .ref (t 0))]) hx hb dX3_resetFaces_74 hl (k := 2) rfl rfl (by decide) rfl (fun ls hl => ?_)
        refine lv_goto (tgt := 28) hx hb dX3_resetFaces_77 (by decide) ?_
        exact L28_2 (upd (upd y 15 (tok cn z sf wf)) 17 0) (q + 1) (by rw [← ht]; simp only [rsL, if_neg c_8]) ls _ _ hP hD hS (lv_sub hl [0, 3, 4, 1, 5, 6] rfl)
    have L28_0 : ∀ (y : Nat → Int32) (q : Int32), rsL (tok cn z sf wf) (sg 1) 4 8 y q = rsL (tok cn z sf wf) (sg 1) 4 8 z 0 → ∀ (ls : Array Slot) (H : Heap) (locs : List Loc), va_P g.1 vwCl (TW g t y sf wf sg) H → va_D A (TW g t y sf wf sg) → va_S A s.heap H locs → lv_has ls 7 [(5, .int 0), (4, .int 4), (3, .ref (t 1)), (2, .int q), (1, .int (tok cn z sf wf)), (0, .ref (t 0))] → W p l e (rmD 2) s m args below meth c H locs 0 0 (MQ below (QI g A (rsR cn z sf wf sg) (TW g t (rsZ cn z sf wf sg) sf wf sg)) args s 0 0 A) (F0 m 28 ls []) := by
      intro y q ht ls H locs hP hD hS hl
      refine lv_iload hx hb dX3_resetFaces_28 (lv_at hl 0 rfl) ?_
      refine lv_iload hx hb dX3_resetFaces_30 (lv_at hl 1 rfl) ?_
      refine lv_icmp_ge (tgt := 80) hx hb dX3_resetFaces_32 (by decide) (fun q9 => absurd q9 (show ¬ (4 : Int32) ≤ (0 : Int32) from (by decide))) (fun c_9 => ?_)
      refine lv_aload_n hx hb dX3_resetFaces_35 rfl (lv_at hl 2 rfl) ?_
      refine lv_iload hx hb dX3_resetFaces_36 (lv_at hl 0 rfl) ?_
      refine x_aald (v := .ref (t 2)) X 1 2 0 hP rfl rfl rfl (by decide) (Nat.le_of_ble_eq_true rfl) rfl dX3_resetFaces_38 ?_
      refine lv_astore (lv' := [(6, .ref (t 2)), (5, .int 0), (4, .int 4), (3, .ref (t 1)), (2, .int q), (1, .int (tok cn z sf wf)), (0, .ref (t 0))]) hx hb dX3_resetFaces_39 hl (by decide) rfl (fun ls hl => ?_)
      refine lv_aload hx hb dX3_resetFaces_41 (lv_at hl 0 rfl) ?_
      refine x_get (v := .int (y 8)) X 2 0 in_X0 hP rfl rfl (by decide) wF_X3_102 rfl rfl dX3_resetFaces_43 ?_
      refine lv_iload_n hx hb dX3_resetFaces_46 rfl (lv_at hl 5 rfl) ?_
      refine x_goI (wn := TW g t y sf wf sg) (x_rN (As := [.int (y 8), .int (tok cn z sf wf)]) X (c_X5_distance l g (y 8) (tok cn z sf wf) _) yf_X5_distance ys_X5_distance hN.2.2.1 ⟨Nat.le_of_ble_eq_true rfl, Nat.le_of_ble_eq_true rfl⟩ hP hD (p_none _) hl rfl rfl (Nat.le_of_ble_eq_true rfl) dX3_resetFaces_47 ⟨Nat.zero_le _, Nat.zero_le _⟩) hP hD hS hA (p_none _) (p_noneB _) (fun H locs hP hD hS => ?_)
      refine lv_aload_n hx hb dX3_resetFaces_50 rfl (lv_at hl 6 rfl) ?_
      refine x_get (v := .ref (t 9)) X 0 2 in_X3 hP rfl rfl (by decide) wF_X3_24 rfl rfl dX3_resetFaces_51 ?_
      refine lv_iconst (v := 1) hx hb dX3_resetFaces_54 (by decide) ?_
      refine x_iald (v := (sg 1)) X 9 1 hP rfl rfl (by decide) (Nat.le_of_ble_eq_true rfl) rfl dX3_resetFaces_55 ?_
      refine lv_icmp_le (tgt := 74) hx hb dX3_resetFaces_56 (by decide) (fun (c_10 : (distC (y 8) (tok cn z sf wf)) ≤ (sg 1)) => ?_) (fun (c_10 : ¬ (distC (y 8) (tok cn z sf wf)) ≤ (sg 1)) => ?_)
      · refine lv_iinc (v := 1) (lv' := [(5, .int 1), (6, .ref (t 2)), (4, .int 4), (3, .ref (t 1)), (2, .int q), (1, .int (tok cn z sf wf)), (0, .ref (t 0))]) hx hb dX3_resetFaces_74 hl (k := 1) rfl rfl (by decide) rfl (fun ls hl => ?_)
        refine lv_goto (tgt := 28) hx hb dX3_resetFaces_77 (by decide) ?_
        exact L28_1 y q (by rw [← ht]; simp only [rsL, if_pos c_10]) ls _ _ hP hD hS (lv_sub hl [0, 2, 3, 4, 5, 6] rfl)
      · refine lv_aload hx hb dX3_resetFaces_59 (lv_at hl 0 rfl) ?_
        refine lv_iload_n hx hb dX3_resetFaces_61 rfl (lv_at hl 5 rfl) ?_
        refine x_put (v := .int (tok cn z sf wf)) (ty0 := tyX0) (ws2 := TW g t (upd y 8 (tok cn z sf wf)) sf wf sg) X 2 0 in_X0 tyX0_ok nmX0 hP hD hS rfl rfl (by decide) wF_X3_102 rfl rfl rfl rfl (Nat.le_of_ble_eq_true rfl) rfl dX3_resetFaces_62 (fun H locs hP hD hS => ?_)
        refine lv_aload hx hb dX3_resetFaces_65 (lv_at hl 0 rfl) ?_
        refine lv_iconst (v := 0) hx hb dX3_resetFaces_67 (by decide) ?_
        refine x_put (v := .int 0) (ty0 := tyX0) (ws2 := TW g t (upd (upd y 8 (tok cn z sf wf)) 10 0) sf wf sg) X 2 2 in_X0 tyX0_ok nmX0 hP hD hS rfl rfl (by decide) wF_X3_108 rfl rfl rfl rfl (Nat.le_of_ble_eq_true rfl) rfl dX3_resetFaces_68 (fun H locs hP hD hS => ?_)
        refine lv_iinc (v := (q + 1)) (lv' := [(2, .int (q + 1)), (6, .ref (t 2)), (5, .int 0), (4, .int 4), (3, .ref (t 1)), (1, .int (tok cn z sf wf)), (0, .ref (t 0))]) hx hb dX3_resetFaces_71 hl (k := 4) rfl rfl (by decide) rfl (fun ls hl => ?_)
        refine lv_iinc (v := 1) (lv' := [(5, .int 1), (2, .int (q + 1)), (6, .ref (t 2)), (4, .int 4), (3, .ref (t 1)), (1, .int (tok cn z sf wf)), (0, .ref (t 0))]) hx hb dX3_resetFaces_74 hl (k := 2) rfl rfl (by decide) rfl (fun ls hl => ?_)
        refine lv_goto (tgt := 28) hx hb dX3_resetFaces_77 (by decide) ?_
        exact L28_1 (upd (upd y 8 (tok cn z sf wf)) 10 0) (q + 1) (by rw [← ht]; simp only [rsL, if_neg c_10]) ls _ _ hP hD hS (lv_sub hl [0, 3, 4, 1, 5, 6] rfl)
    exact L28_0 z 0 rfl ls _ _ hP hD hS (lv_sub hl [0, 1, 2, 3, 4, 5] rfl)
  · refine lv_iconst (v := 0) hx hb dX3_resetFaces_12 (by decide) ?_
    have E : (TW g t z sf wf sg : va_W) = TW g t (rsZ cn z sf wf sg) sf wf sg := by simp only [rsZ, if_pos c_1]
    exact x_iret X hr hlocks (pw E hP) (dw E hD) hS (by simp only [rsR, if_pos c_1]) dX3_resetFaces_13

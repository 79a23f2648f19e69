set_option maxHeartbeats 4000000 in
set_option maxRecDepth 100000 in
theorem lw_J {p : Program} {l : Launch} {e : Env} {s : State} {m : MethodId} {below : List Frame} {meth : Method} {c : Code} {g : wG} {tt : Nat → Nat} {b L : Nat} {xs : Nat → Int32} {A : Nat → Prop} {ad : Nat → Nat → Nat} {bf bk bt cl sl : Nat} (Z : LwX p s m c g tt b L xs A) (hcl : cl + 10 ≤ 600000) (hsl : sl + 180 ≤ 7302250) {tm cn : Nat} {q : CS} {t f k : RI} {S R : Nat → Nat} (h : RQx tm cn q t f k S R) (hq : cL q < 5) (ht9 : tm < 2 ^ 30) {ei : Nat} (hei : ei < 36) (nx : ∀ xv : Int32, LwG p l e s m below meth c g b A [(9, .int xv), (5, .int (nI ei)), (1, .ref (ad 8 0)), (2, .ref bf), (3, .ref bk), (4, .ref bt), (0, .ref b)] 989 cl sl (LW g bf bk bt f k t ++ CW g ad q)) : LwG p l e s m below meth c g b A [(8, .int 1), (5, .int (nI ei)), (1, .ref (ad 8 0)), (2, .ref bf), (3, .ref bk), (4, .ref bt), (0, .ref b)] 950 cl sl (LW g bf bk bt f k t ++ CW g ad q) := by
  obtain ⟨X, hZ, hT, hL, hA⟩ := Z
  obtain ⟨⟨hx, hb, hml, hown, hts⟩, hK, hN⟩ := id X
  have hc6 := h.cn6
  intro ls H locs hP hD hS hl
  have hP : va_P g.1 vwCl ([(bf, .inl (g.2 0, 28, .inl f)), (bk, .inl (g.2 0, 12, .inl k)), (bt, .inl (g.2 0, 8, .inl t))] ++ (CW g ad q)) H := hP
  have hD : va_D A ([(bf, .inl (g.2 0, 28, .inl f)), (bk, .inl (g.2 0, 12, .inl k)), (bt, .inl (g.2 0, 8, .inl t))] ++ (CW g ad q)) := hD
  refine lv_aload_n hx hb dL_law_950 rfl (lv_at hl 6 rfl) ?_
  refine lv_bipush (v := 40) hx hb dL_law_951 (by decide) ?_
  refine lv_iload hx hb dL_law_953 (lv_at hl 1 rfl) ?_
  refine lv_iadd hx hb dL_law_955 ?_
  refine W.eq (g2 := F0 m 956 ls [.int (nI (40 + ei)), .ref b]) (by rw [show 40 + nI ei = nI (40 + ei) from z_add rfl rfl]) ?_
  refine x_goI (wn := [(bf, .inl (g.2 0, 28, .inl f)), (bk, .inl (g.2 0, 12, .inl k)), (bt, .inl (g.2 0, 8, .inl t))] ++ (CW g ad q)) (x_rSX (As := [.ref b, .int (nI (40 + ei))]) X hT (c_L_cell l g b L xs (by omega) (40 + ei) (by omega) _) yf_L_cell ys_L_cell wM_L_64 ⟨Nat.le_of_ble_eq_true rfl, Nat.le_of_ble_eq_true rfl⟩ hP hD hS hA hl rfl rfl (Nat.le_of_ble_eq_true rfl) dL_law_956 ⟨show cl ≤ 600000 from by omega, show sl ≤ 7302250 from by omega⟩) hP hD hS hA (p_none _) (p_noneB _) (fun H locs hP hD hS => ?_)
  refine lv_istore (lv' := [(9, .int (cellF L xs (40 + ei))), (8, .int 1), (5, .int (nI ei)), (1, .ref (ad 8 0)), (2, .ref bf), (3, .ref bk), (4, .ref bt), (0, .ref b)]) hx hb dL_law_959 hl (by decide) rfl (fun ls hl => ?_)
  refine lv_iload hx hb dL_law_961 (lv_at hl 1 rfl) ?_
  refine lv_if_eq (tgt := 987) hx hb dL_law_963 (by decide) (fun q9 => absurd q9 (show ¬ (1 : Int32) = 0 from (by decide))) (fun c_1 => ?_)
  refine lv_aload_n hx hb dL_law_966 rfl (lv_at hl 3 rfl) ?_
  refine lv_aload_n hx hb dL_law_967 rfl (lv_at hl 4 rfl) ?_
  refine lv_aload_n hx hb dL_law_968 rfl (lv_at hl 5 rfl) ?_
  refine lv_aload hx hb dL_law_969 (lv_at hl 6 rfl) ?_
  refine lv_iload hx hb dL_law_971 (lv_at hl 0 rfl) ?_
  refine x_goI (wn := [(bf, .inl (g.2 0, 28, .inl f)), (bk, .inl (g.2 0, 12, .inl k)), (bt, .inl (g.2 0, 8, .inl t))] ++ (CW g ad q)) (x_rS (As := [.ref (ad 8 0), .ref bf, .ref bk, .ref bt, .int (cellF L xs (40 + ei))]) X (c_L_tower l g ad q bf bk bt tm cn f k t S R h ht9 (cellF L xs (40 + ei)) _) yf_L_tower ys_L_tower wM_L_96 ⟨Nat.le_of_ble_eq_true rfl, Nat.le_of_ble_eq_true rfl⟩ hP hD (p_all _) hl rfl rfl (Nat.le_of_ble_eq_true rfl) dL_law_973 ⟨show cl ≤ 600000 from by omega, show sl ≤ 7302250 from by omega⟩) hP hD hS hA (p_all _) (p_back _) (fun H locs hP hD hS => ?_)
  refine lv_if_eq (tgt := 987) hx hb dL_law_976 (by decide) (fun q9 => absurd q9 (show ¬ (1 : Int32) = 0 from (by decide))) (fun c_2 => ?_)
  refine lv_aload_n hx hb dL_law_979 rfl (lv_at hl 3 rfl) ?_
  refine lv_aload_n hx hb dL_law_980 rfl (lv_at hl 4 rfl) ?_
  refine x_goI (wn := [(bf, .inl (g.2 0, 28, .inl f)), (bk, .inl (g.2 0, 12, .inl k)), (bt, .inl (g.2 0, 8, .inl t))] ++ (CW g ad q)) (x_rS (As := [.ref (ad 8 0), .ref bf]) X (c_L_bells l g ad q bf tm cn f k t S R h _) yf_L_bells ys_L_bells wM_L_100 ⟨Nat.le_of_ble_eq_true rfl, Nat.le_of_ble_eq_true rfl⟩ hP hD (perm_b _ _ _ _) hl rfl rfl (Nat.le_of_ble_eq_true rfl) dL_law_981 ⟨show cl ≤ 600000 from by omega, show sl ≤ 7302250 from by omega⟩) hP hD hS hA (perm_b _ _ _ _) (perm_b2 _ _ _ _) (fun H locs hP hD hS => ?_)
  refine lv_if_ne (tgt := 989) hx hb dL_law_984 (by decide) (fun c_3 => ?_) (fun q9 => absurd (show (1 : Int32) = 0 from q9) (show ¬ (1 : Int32) = 0 from (by decide)))
  exact nx (cellF L xs (40 + ei)) ls _ _ hP hD hS (lv_sub hl [0, 2, 3, 4, 5, 6, 7] rfl)

set_option maxHeartbeats 4000000 in
set_option maxRecDepth 100000 in
theorem lw_K {p : Program} {l : Launch} {e : Env} {s : State} {m : MethodId} {below : List Frame} {meth : Method} {c : Code} {g : wG} {tt : Nat → Nat} {b L : Nat} {xs : Nat → Int32} {A : Nat → Prop} {ad : Nat → Nat → Nat} {bf bk bt cl sl : Nat} (Z : LwX p s m c g tt b L xs A) (hcl : cl + 10 ≤ 600000) (hsl : sl + 180 ≤ 7302250) {tm cn : Nat} {q : CS} {t f k : RI} {S R : Nat → Nat} (h : RQx tm cn q t f k S R) (hq : cL q < 5) (ht9 : tm + 800 ≤ 999999) {ei : Nat} {xv : Int32} {nf : Nat} (hnf : nf = 3000) (nx : ∀ (q' : CS), RQx tm cn q' t f k S R → cL q' < 5 → LwG p l e s m below meth c g b A [(5, .int (nI ei)), (1, .ref (ad 8 0)), (2, .ref bf), (3, .ref bk), (4, .ref bt), (0, .ref b)] 1162 (cl + 2) (sl + 36) (LW g bf bk bt f k t ++ CW g ad q')) : LwG p l e s m below meth c g b A [(9, .int xv), (5, .int (nI ei)), (1, .ref (ad 8 0)), (2, .ref bf), (3, .ref bk), (4, .ref bt), (0, .ref b)] 989 cl sl (LW g bf bk bt f k t ++ CW g ad q) := by
  obtain ⟨X, hZ, hT, hL, hA⟩ := Z
  obtain ⟨⟨hx, hb, hml, hown, hts⟩, hK, hN⟩ := id X
  have hc6 := h.cn6
  intro ls H locs hP hD hS hl
  have hP : va_P g.1 vwCl ([(bf, .inl (g.2 0, 28, .inl f)), (bk, .inl (g.2 0, 12, .inl k)), (bt, .inl (g.2 0, 8, .inl t))] ++ (CW g ad q)) H := hP
  have hD : va_D A ([(bf, .inl (g.2 0, 28, .inl f)), (bk, .inl (g.2 0, 12, .inl k)), (bt, .inl (g.2 0, 8, .inl t))] ++ (CW g ad q)) := hD
  refine lv_iload hx hb dL_law_989 (lv_at hl 1 rfl) ?_
  refine lv_iconst (v := 4) hx hb dL_law_991 (by decide) ?_
  refine lv_irem hx hb dL_law_992 (by decide) ?_
  refine lv_iconst (v := 3) hx hb dL_law_993 (by decide) ?_
  refine lv_icmp_ne (tgt := 1162) hx hb dL_law_994 (by decide) (fun (c_1 : ¬ (jrem (nI ei) 4) = 3) => ?_) (fun (c_1 : (jrem (nI ei) 4) = 3) => ?_)
  · refine W.widen (k := cl + 2) (n := sl + 36) (by omega) (by omega) ?_
    exact nx _ h hq ls _ _ hP hD hS (lv_sub hl [1, 2, 3, 4, 5, 6] rfl)
  · refine lv_aload_n hx hb dL_law_997 rfl (lv_at hl 3 rfl) ?_
    refine lv_bipush (v := 28) hx hb dL_law_998 (by decide) ?_
    refine x_newI (n := 28) X wA_int hP hD hS hA rfl (by decide) (show cl + 1 ≤ 600000 from by omega) (show sl + 28 ≤ 7302250 from by omega) dL_law_1000 (fun q_1 H hP hD hS => ?_)
    have hP : va_P g.1 vwCl ([(bf, .inl (g.2 0, 28, .inl f)), (bk, .inl (g.2 0, 12, .inl k)), (bt, .inl (g.2 0, 8, .inl t)), (q_1, .inl (g.2 0, 28, .inl (fun _ => 0)))] ++ (CW g ad q)) H := wo_P_perm (perm_tl _ _ _) hP
    have hD : va_D A ([(bf, .inl (g.2 0, 28, .inl f)), (bk, .inl (g.2 0, 12, .inl k)), (bt, .inl (g.2 0, 8, .inl t)), (q_1, .inl (g.2 0, 28, .inl (fun _ => 0)))] ++ (CW g ad q)) := wo_D_perm (perm_tl _ _ _) hD
    refine x_goQ (wn := [(bf, .inl (g.2 0, 28, .inl f)), (bk, .inl (g.2 0, 12, .inl k)), (bt, .inl (g.2 0, 8, .inl t)), (q_1, .inl (g.2 0, 28, .inl f))] ++ (CW g ad q)) (x_rS (As := [.ref bf, .ref q_1]) X (c_L_copy l g bf q_1 28 (by decide) f (fun _ => 0) _) yf_L_copy ys_L_copy wM_L_104 ⟨Nat.le_of_ble_eq_true rfl, Nat.le_of_ble_eq_true rfl⟩ hP hD (cut2 (List.Perm.refl _) (wo_perm (ws' := [_, _] ++ [_, _]) 4 [0, 3, 1, 2] rfl (by decide) rfl)) hl rfl rfl (Nat.le_of_ble_eq_true rfl) dL_law_1002 ⟨show cl + 1 ≤ 600000 from by omega, show sl + 28 ≤ 7302250 from by omega⟩) hP hD hS hA (cut2 (List.Perm.refl _) (wo_perm (ws' := [_, _] ++ [_, _]) 4 [0, 3, 1, 2] rfl (by decide) rfl)) (back2 (wo_perm 4 [2, 0, 1, 3] rfl (by decide) rfl) List.perm_append_comm) rfl (fun H locs hP hD hS => ?_)
    refine lv_astore (lv' := [(10, .ref q_1), (9, .int xv), (5, .int (nI ei)), (1, .ref (ad 8 0)), (2, .ref bf), (3, .ref bk), (4, .ref bt), (0, .ref b)]) hx hb dL_law_1005 hl (by decide) rfl (fun ls hl => ?_)
    refine lv_aload hx hb dL_law_1007 (lv_at hl 6 rfl) ?_
    refine lv_bipush (v := 8) hx hb dL_law_1009 (by decide) ?_
    refine x_newI (n := 8) X wA_int hP hD hS hA rfl (by decide) (show cl + 1 + 1 ≤ 600000 from by omega) (show sl + 28 + 8 ≤ 7302250 from by omega) dL_law_1011 (fun q_2 H hP hD hS => ?_)
    have hP : va_P g.1 vwCl ([(bf, .inl (g.2 0, 28, .inl f)), (bk, .inl (g.2 0, 12, .inl k)), (bt, .inl (g.2 0, 8, .inl t)), (q_1, .inl (g.2 0, 28, .inl f)), (q_2, .inl (g.2 0, 8, .inl (fun _ => 0)))] ++ (CW g ad q)) H := wo_P_perm (perm_tl _ _ _) hP
    have hD : va_D A ([(bf, .inl (g.2 0, 28, .inl f)), (bk, .inl (g.2 0, 12, .inl k)), (bt, .inl (g.2 0, 8, .inl t)), (q_1, .inl (g.2 0, 28, .inl f)), (q_2, .inl (g.2 0, 8, .inl (fun _ => 0)))] ++ (CW g ad q)) := wo_D_perm (perm_tl _ _ _) hD
    refine x_goQ (wn := [(bf, .inl (g.2 0, 28, .inl f)), (bk, .inl (g.2 0, 12, .inl k)), (bt, .inl (g.2 0, 8, .inl t)), (q_1, .inl (g.2 0, 28, .inl f)), (q_2, .inl (g.2 0, 8, .inl t))] ++ (CW g ad q)) (x_rS (As := [.ref bt, .ref q_2]) X (c_L_copy l g bt q_2 8 (by decide) t (fun _ => 0) _) yf_L_copy ys_L_copy wM_L_104 ⟨Nat.le_of_ble_eq_true rfl, Nat.le_of_ble_eq_true rfl⟩ hP hD (cut2 (List.Perm.refl _) (wo_perm (ws' := [_, _] ++ [_, _, _]) 5 [2, 4, 0, 1, 3] rfl (by decide) rfl)) hl rfl rfl (Nat.le_of_ble_eq_true rfl) dL_law_1013 ⟨show cl + 1 + 1 ≤ 600000 from by omega, show sl + 28 + 8 ≤ 7302250 from by omega⟩) hP hD hS hA (cut2 (List.Perm.refl _) (wo_perm (ws' := [_, _] ++ [_, _, _]) 5 [2, 4, 0, 1, 3] rfl (by decide) rfl)) (back2 (wo_perm 5 [0, 1, 3, 2, 4] rfl (by decide) rfl) List.perm_append_comm) rfl (fun H locs hP hD hS => ?_)
    refine lv_astore (lv' := [(11, .ref q_2), (10, .ref q_1), (9, .int xv), (5, .int (nI ei)), (1, .ref (ad 8 0)), (2, .ref bf), (3, .ref bk), (4, .ref bt), (0, .ref b)]) hx hb dL_law_1016 hl (by decide) rfl (fun ls hl => ?_)
    refine lv_iload hx hb dL_law_1018 (lv_at hl 2 rfl) ?_
    refine lv_bipush (v := 11) hx hb dL_law_1020 (by decide) ?_
    refine lv_ishr hx hb dL_law_1022 ?_
    refine lv_sipush (v := 400) hx hb dL_law_1023 (by decide) ?_
    obtain ⟨j_1, hj_1, ej_1⟩ : ∃ j, j < 400 ∧ lowF (xv >>> (11 &&& 31)) 400 = nI j := low_n (xv >>> (11 &&& 31)) (n := 400) (by decide) (by decide)
    refine x_goI (wn := [(bf, .inl (g.2 0, 28, .inl f)), (bk, .inl (g.2 0, 12, .inl k)), (bt, .inl (g.2 0, 8, .inl t)), (q_1, .inl (g.2 0, 28, .inl f)), (q_2, .inl (g.2 0, 8, .inl t))] ++ (CW g ad q)) (x_rS (As := [.int (xv >>> (11 &&& 31)), .int 400]) X (c_L_lowj l g (xv >>> (11 &&& 31)) 400 j_1 (by decide) ej_1 _) yf_L_low ys_L_low wM_L_33 ⟨Nat.le_of_ble_eq_true rfl, Nat.le_of_ble_eq_true rfl⟩ hP hD (p_none _) hl rfl rfl (Nat.le_of_ble_eq_true rfl) dL_law_1026 ⟨show cl + 1 + 1 ≤ 600000 from by omega, show sl + 28 + 8 ≤ 7302250 from by omega⟩) hP hD hS hA (p_none _) (p_noneB _) (fun H locs hP hD hS => ?_)
    refine lv_istore (lv' := [(12, .int (nI j_1)), (11, .ref q_2), (10, .ref q_1), (9, .int xv), (5, .int (nI ei)), (1, .ref (ad 8 0)), (2, .ref bf), (3, .ref bk), (4, .ref bt), (0, .ref b)]) hx hb dL_law_1029 hl (by decide) rfl (fun ls hl => ?_)
    refine lv_iload hx hb dL_law_1031 (lv_at hl 3 rfl) ?_
    refine lv_bipush (v := 20) hx hb dL_law_1033 (by decide) ?_
    refine lv_ishr hx hb dL_law_1035 ?_
    refine lv_bipush (v := 12) hx hb dL_law_1036 (by decide) ?_
    obtain ⟨j_2, hj_2, ej_2⟩ : ∃ j, j < 12 ∧ lowF (xv >>> (20 &&& 31)) 12 = nI j := low_n (xv >>> (20 &&& 31)) (n := 12) (by decide) (by decide)
    refine x_goI (wn := [(bf, .inl (g.2 0, 28, .inl f)), (bk, .inl (g.2 0, 12, .inl k)), (bt, .inl (g.2 0, 8, .inl t)), (q_1, .inl (g.2 0, 28, .inl f)), (q_2, .inl (g.2 0, 8, .inl t))] ++ (CW g ad q)) (x_rS (As := [.int (xv >>> (20 &&& 31)), .int 12]) X (c_L_lowj l g (xv >>> (20 &&& 31)) 12 j_2 (by decide) ej_2 _) yf_L_low ys_L_low wM_L_33 ⟨Nat.le_of_ble_eq_true rfl, Nat.le_of_ble_eq_true rfl⟩ hP hD (p_none _) hl rfl rfl (Nat.le_of_ble_eq_true rfl) dL_law_1038 ⟨show cl + 1 + 1 ≤ 600000 from by omega, show sl + 28 + 8 ≤ 7302250 from by omega⟩) hP hD hS hA (p_none _) (p_noneB _) (fun H locs hP hD hS => ?_)
    refine lv_istore (lv' := [(13, .int (nI j_2)), (12, .int (nI j_1)), (11, .ref q_2), (10, .ref q_1), (9, .int xv), (5, .int (nI ei)), (1, .ref (ad 8 0)), (2, .ref bf), (3, .ref bk), (4, .ref bt), (0, .ref b)]) hx hb dL_law_1041 hl (by decide) rfl (fun ls hl => ?_)
    refine lv_aload_n hx hb dL_law_1043 rfl (lv_at hl 7 rfl) ?_
    refine x_goI (wn := [(bf, .inl (g.2 0, 28, .inl f)), (bk, .inl (g.2 0, 12, .inl k)), (bt, .inl (g.2 0, 8, .inl t)), (q_1, .inl (g.2 0, 28, .inl f)), (q_2, .inl (g.2 0, 8, .inl t))] ++ (CW g ad q)) (x_rS (As := [.ref bf]) X (c_L_spread l g bf f h.fd _) yf_L_spread ys_L_spread wM_L_53 ⟨Nat.le_of_ble_eq_true rfl, Nat.le_of_ble_eq_true rfl⟩ hP hD (cut2 (List.Perm.refl _) (wo_perm (ws' := [_] ++ [_, _, _, _]) 5 [0, 1, 2, 3, 4] rfl (by decide) rfl)) hl rfl rfl (Nat.le_of_ble_eq_true rfl) dL_law_1044 ⟨show cl + 1 + 1 ≤ 600000 from by omega, show sl + 28 + 8 ≤ 7302250 from by omega⟩) hP hD hS hA (cut2 (List.Perm.refl _) (wo_perm (ws' := [_] ++ [_, _, _, _]) 5 [0, 1, 2, 3, 4] rfl (by decide) rfl)) (back2 (wo_perm 5 [4, 0, 1, 2, 3] rfl (by decide) rfl) List.perm_append_comm) (fun H locs hP hD hS => ?_)
    refine lv_iload hx hb dL_law_1047 (lv_at hl 0 rfl) ?_
    refine lv_icmp_lt (tgt := 1056) hx hb dL_law_1049 (by decide) (fun (c_2 : (spL f) < (nI j_2)) => ?_) (fun (c_2 : ¬ (spL f) < (nI j_2)) => ?_)
    · refine lv_iconst (v := (-1)) hx hb dL_law_1056 (by decide) ?_
      refine lv_istore (lv' := [(14, .int (-1)), (13, .int (nI j_2)), (12, .int (nI j_1)), (11, .ref q_2), (10, .ref q_1), (9, .int xv), (5, .int (nI ei)), (1, .ref (ad 8 0)), (2, .ref bf), (3, .ref bk), (4, .ref bt), (0, .ref b)]) hx hb dL_law_1057 hl (by decide) rfl (fun ls hl => ?_)
      refine lv_iconst (v := 1) hx hb dL_law_1059 (by decide) ?_
      refine lv_istore (lv' := [(15, .int 1), (14, .int (-1)), (13, .int (nI j_2)), (12, .int (nI j_1)), (11, .ref q_2), (10, .ref q_1), (9, .int xv), (5, .int (nI ei)), (1, .ref (ad 8 0)), (2, .ref bf), (3, .ref bk), (4, .ref bt), (0, .ref b)]) hx hb dL_law_1060 hl (by decide) rfl (fun ls hl => ?_)
      have hM0 : MTi cn (cT q 1) (cT q 2) (cT q 3) (nI j_2) (kMinutesTo q cn (nI j_2)).1 (cT q 0) 1 (-1) := by
        have q9 := mt_0 (sv := spL f) hnf (l_mt h (show j_2 ≤ 360 from by omega) hnf).1 (l_spread h)
        rw [if_pos c_2] at q9; exact q9
      suffices LP1062 : ∀ (n : Nat) (md : Nat) (y : Nat → Int32) (u : Nat → Int32) (xx : Nat → Int32) (u9 : Int32) (fs : Int32), md + n = j_1 → RTx (tm + md) cn xx (cT q 1) (cT q 2) (cT q 3) u y k S R → pmsC cn (cT q 1) (cT q 2) (cT q 3) n xx u9 = pmsC cn (cT q 1) (cT q 2) (cT q 3) j_1 (cT q 0) 0 → MTi cn (cT q 1) (cT q 2) (cT q 3) (nI j_2) (kMinutesTo q cn (nI j_2)).1 xx (md + 1) fs → ∀ (ls : Array Slot) (H : Heap) (locs : List Loc), va_P g.1 vwCl ([(bf, .inl (g.2 0, 28, .inl f)), (bk, .inl (g.2 0, 12, .inl k)), (bt, .inl (g.2 0, 8, .inl t)), (q_1, .inl (g.2 0, 28, .inl y)), (q_2, .inl (g.2 0, 8, .inl u))] ++ (CW g ad q)) H → va_D A ([(bf, .inl (g.2 0, 28, .inl f)), (bk, .inl (g.2 0, 12, .inl k)), (bt, .inl (g.2 0, 8, .inl t)), (q_1, .inl (g.2 0, 28, .inl y)), (q_2, .inl (g.2 0, 8, .inl u))] ++ (CW g ad q)) → va_S A s.heap H locs → lv_has ls 22 [(15, .int (nI (md + 1))), (14, .int fs), (13, .int (nI j_2)), (12, .int (nI j_1)), (11, .ref q_2), (10, .ref q_1), (5, .int (nI ei)), (1, .ref (ad 8 0)), (2, .ref bf), (3, .ref bk), (4, .ref bt), (0, .ref b)] → W p l e room_1 s m #[Value.ref b] below meth c H locs (cl + 1 + 1) (sl + 28 + 8) (lw_Z below #[Value.ref b] s) (F0 m 1062 ls []) from LP1062 j_1 0 f t (cT q 0) 0 (-1) (Nat.zero_add _) h rfl hM0 ls _ _ hP hD hS (lv_sub hl [0, 1, 2, 3, 4, 5, 7, 8, 9, 10, 11, 12] rfl)
      intro n
      induction n with
      | zero =>
        intro md y u xx u9 fs hmd hR hp hM ls H locs hP hD hS hl
        refine lv_iload hx hb dL_law_1062 (lv_at hl 0 rfl) ?_
        refine lv_iload hx hb dL_law_1064 (lv_at hl 3 rfl) ?_
        refine lv_icmp_gt (tgt := 1108) hx hb dL_law_1066 (by decide) (fun c_3 => ?_) (fun q9 => absurd (show (nI j_1) < (nI (md + 1)) from (nI_lt (by omega) (by omega))) (show ¬ ((nI j_1) < (nI (md + 1))) from q9))
        have emd : md = j_1 := by omega
        rw [emd] at hR hM
        have eT := (l_mt h (show j_2 ≤ 360 from by omega) hnf).2.1
        have eL := (l_mt h (show j_2 ≤ 360 from by omega) hnf).2.2
        have hB2 : bok (cT (kMinutesTo q cn (nI j_2)).2 0) := by rw [eT]; exact h.b
        have hz2 : cT (kMinutesTo q cn (nI j_2)).2 0 7 = nI cn := by rw [eT]; exact h.x7
        have hs9 : (kSpreadIn (kMinutesTo q cn (nI j_2)).2 cn (nI j_1)).1 = spL y := by rw [(l_sp _ cn (mn := j_1) (by omega)).1, eT, ← hp]; exact l_spread hR
        rcases mt_end (mn := j_1) hM (by omega) with ⟨a9, ha9, ef9, et9⟩ | ⟨ef9, et9⟩ | ⟨ef9, a9, hb9, ha9, et9⟩
        · subst ef9
          refine lv_aload_n hx hb dL_law_1108 rfl (lv_at hl 7 rfl) ?_
          refine lv_iload hx hb dL_law_1109 (lv_at hl 2 rfl) ?_
          refine x_goI (wn := [(bf, .inl (g.2 0, 28, .inl f)), (bk, .inl (g.2 0, 12, .inl k)), (bt, .inl (g.2 0, 8, .inl t)), (q_1, .inl (g.2 0, 28, .inl y)), (q_2, .inl (g.2 0, 8, .inl u))] ++ (CW g ad ((kMinutesTo q cn (nI j_2)).2))) (x_rV (As := [.int (nI j_2)]) X (c_X5_minutesTo l g ad q (nI j_2) h.b cn h.cn6 h.x7 _) yf_X5_minutesTo yi_X5_minutesTo wM_L_108 ⟨Nat.le_of_ble_eq_true rfl, Nat.le_of_ble_eq_true rfl⟩ hP hD List.perm_append_comm 0 rfl rfl hl rfl rfl (Nat.le_of_ble_eq_true rfl) dL_law_1111 ⟨show cl + 1 + 1 ≤ 600000 from by omega, show sl + 28 + 8 ≤ 7302250 from by omega⟩) hP hD hS hA List.perm_append_comm (List.Perm.refl _) (fun H locs hP hD hS => ?_)
          refine lv_istore (lv' := [(15, .int ((kMinutesTo q cn (nI j_2)).1)), (14, .int (nI a9)), (13, .int (nI j_2)), (12, .int (nI j_1)), (11, .ref q_2), (10, .ref q_1), (5, .int (nI ei)), (1, .ref (ad 8 0)), (2, .ref bf), (3, .ref bk), (4, .ref bt), (0, .ref b)]) hx hb dL_law_1114 hl (by decide) rfl (fun ls hl => ?_)
          refine lv_aload_n hx hb dL_law_1116 rfl (lv_at hl 7 rfl) ?_
          refine lv_iload hx hb dL_law_1117 (lv_at hl 3 rfl) ?_
          refine x_goI (wn := [(bf, .inl (g.2 0, 28, .inl f)), (bk, .inl (g.2 0, 12, .inl k)), (bt, .inl (g.2 0, 8, .inl t)), (q_1, .inl (g.2 0, 28, .inl y)), (q_2, .inl (g.2 0, 8, .inl u))] ++ (CW g ad ((kSpreadIn ((kMinutesTo q cn (nI j_2)).2) cn (nI j_1)).2))) (x_rV (As := [.int (nI j_1)]) X (c_X5_spreadIn l g ad ((kMinutesTo q cn (nI j_2)).2) (nI j_1) hB2 cn h.cn6 hz2 _) yf_X5_spreadIn yi_X5_spreadIn wM_L_111 ⟨Nat.le_of_ble_eq_true rfl, Nat.le_of_ble_eq_true rfl⟩ hP hD List.perm_append_comm 0 rfl rfl hl rfl rfl (Nat.le_of_ble_eq_true rfl) dL_law_1119 ⟨show cl + 1 + 1 ≤ 600000 from by omega, show sl + 28 + 8 ≤ 7302250 from by omega⟩) hP hD hS hA List.perm_append_comm (List.Perm.refl _) (fun H locs hP hD hS => ?_)
          refine lv_aload hx hb dL_law_1122 (lv_at hl 5 rfl) ?_
          refine x_goI (wn := [(bf, .inl (g.2 0, 28, .inl f)), (bk, .inl (g.2 0, 12, .inl k)), (bt, .inl (g.2 0, 8, .inl t)), (q_1, .inl (g.2 0, 28, .inl y)), (q_2, .inl (g.2 0, 8, .inl u))] ++ (CW g ad ((kSpreadIn ((kMinutesTo q cn (nI j_2)).2) cn (nI j_1)).2))) (x_rS (As := [.ref q_1]) X (c_L_spread l g q_1 y hR.fd _) yf_L_spread ys_L_spread wM_L_53 ⟨Nat.le_of_ble_eq_true rfl, Nat.le_of_ble_eq_true rfl⟩ hP hD (cut2 (List.Perm.refl _) (wo_perm (ws' := [_] ++ [_, _, _, _]) 5 [3, 0, 1, 2, 4] rfl (by decide) rfl)) hl rfl rfl (Nat.le_of_ble_eq_true rfl) dL_law_1124 ⟨show cl + 1 + 1 ≤ 600000 from by omega, show sl + 28 + 8 ≤ 7302250 from by omega⟩) hP hD hS hA (cut2 (List.Perm.refl _) (wo_perm (ws' := [_] ++ [_, _, _, _]) 5 [3, 0, 1, 2, 4] rfl (by decide) rfl)) (back2 (wo_perm 5 [0, 1, 2, 4, 3] rfl (by decide) rfl) List.perm_append_comm) (fun H locs hP hD hS => ?_)
          refine lv_icmp_ne (tgt := 1160) hx hb dL_law_1127 (by decide) (fun q9 => absurd (show ((kSpreadIn ((kMinutesTo q cn (nI j_2)).2) cn (nI j_1)).1) = (spL y) from hs9) q9) (fun c_4 => ?_)
          refine lv_iload hx hb dL_law_1130 (lv_at hl 1 rfl) ?_
          refine lv_if_lt (tgt := 1145) hx hb dL_law_1132 (by decide) (fun q9 => absurd q9 (show ¬ (nI a9) < 0 from (nI_pos ha9))) (fun c_5 => ?_)
          refine lv_iload hx hb dL_law_1135 (lv_at hl 0 rfl) ?_
          refine lv_iload hx hb dL_law_1137 (lv_at hl 1 rfl) ?_
          refine lv_icmp_eq (tgt := 1162) hx hb dL_law_1139 (by decide) (fun c_6 => ?_) (fun q9 => absurd (show ((kMinutesTo q cn (nI j_2)).1) = (nI a9) from et9) (show ¬ (((kMinutesTo q cn (nI j_2)).1) = (nI a9)) from q9))
          have hP := P_drop (a := LW g bf bk bt f k t) (b := [(q_1, .inl (g.2 0, 28, .inl y)), (q_2, .inl (g.2 0, 8, .inl u))]) hP
          have hD := D_drop (a := LW g bf bk bt f k t) (b := [(q_1, .inl (g.2 0, 28, .inl y)), (q_2, .inl (g.2 0, 8, .inl u))]) hD
          have h9 : RQx tm cn ((kSpreadIn ((kMinutesTo q cn (nI j_2)).2) cn (nI j_1)).2) t f k S R := by
            have e9 : cT ((kSpreadIn ((kMinutesTo q cn (nI j_2)).2) cn (nI j_1)).2) = cT q := ((l_sp _ cn (mn := j_1) (by omega)).2.1).trans eT
            show RTx tm cn (cT ((kSpreadIn ((kMinutesTo q cn (nI j_2)).2) cn (nI j_1)).2) 0) _ _ _ t f k S R
            rw [e9]; exact h
          have hq9 : cL ((kSpreadIn ((kMinutesTo q cn (nI j_2)).2) cn (nI j_1)).2) < 5 := by rw [(l_sp _ cn (mn := j_1) (by omega)).2.2, eL]; exact hq
          refine W.widen (k := cl + 2) (n := sl + 36) (by omega) (by omega) ?_
          exact nx _ h9 hq9 ls _ _ hP hD hS (lv_sub hl [6, 7, 8, 9, 10, 11] rfl)
        · subst ef9
          refine lv_aload_n hx hb dL_law_1108 rfl (lv_at hl 7 rfl) ?_
          refine lv_iload hx hb dL_law_1109 (lv_at hl 2 rfl) ?_
          refine x_goI (wn := [(bf, .inl (g.2 0, 28, .inl f)), (bk, .inl (g.2 0, 12, .inl k)), (bt, .inl (g.2 0, 8, .inl t)), (q_1, .inl (g.2 0, 28, .inl y)), (q_2, .inl (g.2 0, 8, .inl u))] ++ (CW g ad ((kMinutesTo q cn (nI j_2)).2))) (x_rV (As := [.int (nI j_2)]) X (c_X5_minutesTo l g ad q (nI j_2) h.b cn h.cn6 h.x7 _) yf_X5_minutesTo yi_X5_minutesTo wM_L_108 ⟨Nat.le_of_ble_eq_true rfl, Nat.le_of_ble_eq_true rfl⟩ hP hD List.perm_append_comm 0 rfl rfl hl rfl rfl (Nat.le_of_ble_eq_true rfl) dL_law_1111 ⟨show cl + 1 + 1 ≤ 600000 from by omega, show sl + 28 + 8 ≤ 7302250 from by omega⟩) hP hD hS hA List.perm_append_comm (List.Perm.refl _) (fun H locs hP hD hS => ?_)
          refine lv_istore (lv' := [(15, .int ((kMinutesTo q cn (nI j_2)).1)), (14, .int (-1)), (13, .int (nI j_2)), (12, .int (nI j_1)), (11, .ref q_2), (10, .ref q_1), (5, .int (nI ei)), (1, .ref (ad 8 0)), (2, .ref bf), (3, .ref bk), (4, .ref bt), (0, .ref b)]) hx hb dL_law_1114 hl (by decide) rfl (fun ls hl => ?_)
          refine lv_aload_n hx hb dL_law_1116 rfl (lv_at hl 7 rfl) ?_
          refine lv_iload hx hb dL_law_1117 (lv_at hl 3 rfl) ?_
          refine x_goI (wn := [(bf, .inl (g.2 0, 28, .inl f)), (bk, .inl (g.2 0, 12, .inl k)), (bt, .inl (g.2 0, 8, .inl t)), (q_1, .inl (g.2 0, 28, .inl y)), (q_2, .inl (g.2 0, 8, .inl u))] ++ (CW g ad ((kSpreadIn ((kMinutesTo q cn (nI j_2)).2) cn (nI j_1)).2))) (x_rV (As := [.int (nI j_1)]) X (c_X5_spreadIn l g ad ((kMinutesTo q cn (nI j_2)).2) (nI j_1) hB2 cn h.cn6 hz2 _) yf_X5_spreadIn yi_X5_spreadIn wM_L_111 ⟨Nat.le_of_ble_eq_true rfl, Nat.le_of_ble_eq_true rfl⟩ hP hD List.perm_append_comm 0 rfl rfl hl rfl rfl (Nat.le_of_ble_eq_true rfl) dL_law_1119 ⟨show cl + 1 + 1 ≤ 600000 from by omega, show sl + 28 + 8 ≤ 7302250 from by omega⟩) hP hD hS hA List.perm_append_comm (List.Perm.refl _) (fun H locs hP hD hS => ?_)
          refine lv_aload hx hb dL_law_1122 (lv_at hl 5 rfl) ?_
          refine x_goI (wn := [(bf, .inl (g.2 0, 28, .inl f)), (bk, .inl (g.2 0, 12, .inl k)), (bt, .inl (g.2 0, 8, .inl t)), (q_1, .inl (g.2 0, 28, .inl y)), (q_2, .inl (g.2 0, 8, .inl u))] ++ (CW g ad ((kSpreadIn ((kMinutesTo q cn (nI j_2)).2) cn (nI j_1)).2))) (x_rS (As := [.ref q_1]) X (c_L_spread l g q_1 y hR.fd _) yf_L_spread ys_L_spread wM_L_53 ⟨Nat.le_of_ble_eq_true rfl, Nat.le_of_ble_eq_true rfl⟩ hP hD (cut2 (List.Perm.refl _) (wo_perm (ws' := [_] ++ [_, _, _, _]) 5 [3, 0, 1, 2, 4] rfl (by decide) rfl)) hl rfl rfl (Nat.le_of_ble_eq_true rfl) dL_law_1124 ⟨show cl + 1 + 1 ≤ 600000 from by omega, show sl + 28 + 8 ≤ 7302250 from by omega⟩) hP hD hS hA (cut2 (List.Perm.refl _) (wo_perm (ws' := [_] ++ [_, _, _, _]) 5 [3, 0, 1, 2, 4] rfl (by decide) rfl)) (back2 (wo_perm 5 [0, 1, 2, 4, 3] rfl (by decide) rfl) List.perm_append_comm) (fun H locs hP hD hS => ?_)
          refine lv_icmp_ne (tgt := 1160) hx hb dL_law_1127 (by decide) (fun q9 => absurd (show ((kSpreadIn ((kMinutesTo q cn (nI j_2)).2) cn (nI j_1)).1) = (spL y) from hs9) q9) (fun c_7 => ?_)
          refine lv_iload hx hb dL_law_1130 (lv_at hl 1 rfl) ?_
          refine lv_if_lt (tgt := 1145) hx hb dL_law_1132 (by decide) (fun c_8 => ?_) (fun q9 => absurd (show (-1 : Int32) < 0 from (by decide)) (show ¬ ((-1 : Int32) < 0) from q9))
          refine lv_iload hx hb dL_law_1145 (lv_at hl 0 rfl) ?_
          refine lv_sipush (v := (-1000)) hx hb dL_law_1147 (by decide) ?_
          refine lv_icmp_eq (tgt := 1162) hx hb dL_law_1150 (by decide) (fun c_9 => ?_) (fun q9 => absurd (show ((kMinutesTo q cn (nI j_2)).1) = (-1000) from et9) (show ¬ (((kMinutesTo q cn (nI j_2)).1) = (-1000)) from q9))
          have hP := P_drop (a := LW g bf bk bt f k t) (b := [(q_1, .inl (g.2 0, 28, .inl y)), (q_2, .inl (g.2 0, 8, .inl u))]) hP
          have hD := D_drop (a := LW g bf bk bt f k t) (b := [(q_1, .inl (g.2 0, 28, .inl y)), (q_2, .inl (g.2 0, 8, .inl u))]) hD
          have h9 : RQx tm cn ((kSpreadIn ((kMinutesTo q cn (nI j_2)).2) cn (nI j_1)).2) t f k S R := by
            have e9 : cT ((kSpreadIn ((kMinutesTo q cn (nI j_2)).2) cn (nI j_1)).2) = cT q := ((l_sp _ cn (mn := j_1) (by omega)).2.1).trans eT
            show RTx tm cn (cT ((kSpreadIn ((kMinutesTo q cn (nI j_2)).2) cn (nI j_1)).2) 0) _ _ _ t f k S R
            rw [e9]; exact h
          have hq9 : cL ((kSpreadIn ((kMinutesTo q cn (nI j_2)).2) cn (nI j_1)).2) < 5 := by rw [(l_sp _ cn (mn := j_1) (by omega)).2.2, eL]; exact hq
          refine W.widen (k := cl + 2) (n := sl + 36) (by omega) (by omega) ?_
          exact nx _ h9 hq9 ls _ _ hP hD hS (lv_sub hl [6, 7, 8, 9, 10, 11] rfl)
        · subst ef9
          refine lv_aload_n hx hb dL_law_1108 rfl (lv_at hl 7 rfl) ?_
          refine lv_iload hx hb dL_law_1109 (lv_at hl 2 rfl) ?_
          refine x_goI (wn := [(bf, .inl (g.2 0, 28, .inl f)), (bk, .inl (g.2 0, 12, .inl k)), (bt, .inl (g.2 0, 8, .inl t)), (q_1, .inl (g.2 0, 28, .inl y)), (q_2, .inl (g.2 0, 8, .inl u))] ++ (CW g ad ((kMinutesTo q cn (nI j_2)).2))) (x_rV (As := [.int (nI j_2)]) X (c_X5_minutesTo l g ad q (nI j_2) h.b cn h.cn6 h.x7 _) yf_X5_minutesTo yi_X5_minutesTo wM_L_108 ⟨Nat.le_of_ble_eq_true rfl, Nat.le_of_ble_eq_true rfl⟩ hP hD List.perm_append_comm 0 rfl rfl hl rfl rfl (Nat.le_of_ble_eq_true rfl) dL_law_1111 ⟨show cl + 1 + 1 ≤ 600000 from by omega, show sl + 28 + 8 ≤ 7302250 from by omega⟩) hP hD hS hA List.perm_append_comm (List.Perm.refl _) (fun H locs hP hD hS => ?_)
          refine lv_istore (lv' := [(15, .int ((kMinutesTo q cn (nI j_2)).1)), (14, .int (-1)), (13, .int (nI j_2)), (12, .int (nI j_1)), (11, .ref q_2), (10, .ref q_1), (5, .int (nI ei)), (1, .ref (ad 8 0)), (2, .ref bf), (3, .ref bk), (4, .ref bt), (0, .ref b)]) hx hb dL_law_1114 hl (by decide) rfl (fun ls hl => ?_)
          refine lv_aload_n hx hb dL_law_1116 rfl (lv_at hl 7 rfl) ?_
          refine lv_iload hx hb dL_law_1117 (lv_at hl 3 rfl) ?_
          refine x_goI (wn := [(bf, .inl (g.2 0, 28, .inl f)), (bk, .inl (g.2 0, 12, .inl k)), (bt, .inl (g.2 0, 8, .inl t)), (q_1, .inl (g.2 0, 28, .inl y)), (q_2, .inl (g.2 0, 8, .inl u))] ++ (CW g ad ((kSpreadIn ((kMinutesTo q cn (nI j_2)).2) cn (nI j_1)).2))) (x_rV (As := [.int (nI j_1)]) X (c_X5_spreadIn l g ad ((kMinutesTo q cn (nI j_2)).2) (nI j_1) hB2 cn h.cn6 hz2 _) yf_X5_spreadIn yi_X5_spreadIn wM_L_111 ⟨Nat.le_of_ble_eq_true rfl, Nat.le_of_ble_eq_true rfl⟩ hP hD List.perm_append_comm 0 rfl rfl hl rfl rfl (Nat.le_of_ble_eq_true rfl) dL_law_1119 ⟨show cl + 1 + 1 ≤ 600000 from by omega, show sl + 28 + 8 ≤ 7302250 from by omega⟩) hP hD hS hA List.perm_append_comm (List.Perm.refl _) (fun H locs hP hD hS => ?_)
          refine lv_aload hx hb dL_law_1122 (lv_at hl 5 rfl) ?_
          refine x_goI (wn := [(bf, .inl (g.2 0, 28, .inl f)), (bk, .inl (g.2 0, 12, .inl k)), (bt, .inl (g.2 0, 8, .inl t)), (q_1, .inl (g.2 0, 28, .inl y)), (q_2, .inl (g.2 0, 8, .inl u))] ++ (CW g ad ((kSpreadIn ((kMinutesTo q cn (nI j_2)).2) cn (nI j_1)).2))) (x_rS (As := [.ref q_1]) X (c_L_spread l g q_1 y hR.fd _) yf_L_spread ys_L_spread wM_L_53 ⟨Nat.le_of_ble_eq_true rfl, Nat.le_of_ble_eq_true rfl⟩ hP hD (cut2 (List.Perm.refl _) (wo_perm (ws' := [_] ++ [_, _, _, _]) 5 [3, 0, 1, 2, 4] rfl (by decide) rfl)) hl rfl rfl (Nat.le_of_ble_eq_true rfl) dL_law_1124 ⟨show cl + 1 + 1 ≤ 600000 from by omega, show sl + 28 + 8 ≤ 7302250 from by omega⟩) hP hD hS hA (cut2 (List.Perm.refl _) (wo_perm (ws' := [_] ++ [_, _, _, _]) 5 [3, 0, 1, 2, 4] rfl (by decide) rfl)) (back2 (wo_perm 5 [0, 1, 2, 4, 3] rfl (by decide) rfl) List.perm_append_comm) (fun H locs hP hD hS => ?_)
          refine lv_icmp_ne (tgt := 1160) hx hb dL_law_1127 (by decide) (fun q9 => absurd (show ((kSpreadIn ((kMinutesTo q cn (nI j_2)).2) cn (nI j_1)).1) = (spL y) from hs9) q9) (fun c_10 => ?_)
          refine lv_iload hx hb dL_law_1130 (lv_at hl 1 rfl) ?_
          refine lv_if_lt (tgt := 1145) hx hb dL_law_1132 (by decide) (fun c_11 => ?_) (fun q9 => absurd (show (-1 : Int32) < 0 from (by decide)) (show ¬ ((-1 : Int32) < 0) from q9))
          refine lv_iload hx hb dL_law_1145 (lv_at hl 0 rfl) ?_
          refine lv_sipush (v := (-1000)) hx hb dL_law_1147 (by decide) ?_
          refine lv_icmp_eq (tgt := 1162) hx hb dL_law_1150 (by decide) (fun q9 => absurd q9 (show ¬ ((kMinutesTo q cn (nI j_2)).1) = (-1000) from (by rw [et9]; exact ne1000 ha9))) (fun c_12 => ?_)
          refine lv_iload hx hb dL_law_1153 (lv_at hl 0 rfl) ?_
          refine lv_iload hx hb dL_law_1155 (lv_at hl 3 rfl) ?_
          refine lv_icmp_gt (tgt := 1162) hx hb dL_law_1157 (by decide) (fun c_13 => ?_) (fun q9 => absurd (show (nI j_1) < ((kMinutesTo q cn (nI j_2)).1) from (by rw [et9]; exact nI_lt hb9 ha9)) (show ¬ ((nI j_1) < ((kMinutesTo q cn (nI j_2)).1)) from q9))
          have hP := P_drop (a := LW g bf bk bt f k t) (b := [(q_1, .inl (g.2 0, 28, .inl y)), (q_2, .inl (g.2 0, 8, .inl u))]) hP
          have hD := D_drop (a := LW g bf bk bt f k t) (b := [(q_1, .inl (g.2 0, 28, .inl y)), (q_2, .inl (g.2 0, 8, .inl u))]) hD
          have h9 : RQx tm cn ((kSpreadIn ((kMinutesTo q cn (nI j_2)).2) cn (nI j_1)).2) t f k S R := by
            have e9 : cT ((kSpreadIn ((kMinutesTo q cn (nI j_2)).2) cn (nI j_1)).2) = cT q := ((l_sp _ cn (mn := j_1) (by omega)).2.1).trans eT
            show RTx tm cn (cT ((kSpreadIn ((kMinutesTo q cn (nI j_2)).2) cn (nI j_1)).2) 0) _ _ _ t f k S R
            rw [e9]; exact h
          have hq9 : cL ((kSpreadIn ((kMinutesTo q cn (nI j_2)).2) cn (nI j_1)).2) < 5 := by rw [(l_sp _ cn (mn := j_1) (by omega)).2.2, eL]; exact hq
          refine W.widen (k := cl + 2) (n := sl + 36) (by omega) (by omega) ?_
          exact nx _ h9 hq9 ls _ _ hP hD hS (lv_sub hl [6, 7, 8, 9, 10, 11] rfl)
      | succ n ih =>
        intro md y u xx u9 fs hmd hR hp hM ls H locs hP hD hS hl
        refine lv_iload hx hb dL_law_1062 (lv_at hl 0 rfl) ?_
        refine lv_iload hx hb dL_law_1064 (lv_at hl 3 rfl) ?_
        refine lv_icmp_gt (tgt := 1108) hx hb dL_law_1066 (by decide) (fun q9 => absurd q9 (show ¬ (nI j_1) < (nI (md + 1)) from (nI_nlt (by omega) (by omega)))) (fun c_14 => ?_)
        refine lv_aload hx hb dL_law_1069 (lv_at hl 5 rfl) ?_
        refine lv_aload_n hx hb dL_law_1071 rfl (lv_at hl 9 rfl) ?_
        refine lv_aload hx hb dL_law_1072 (lv_at hl 4 rfl) ?_
        obtain ⟨w9, hn9, hR2, hu2⟩ := hR.min (by omega)
        refine x_goI (wn := [(bf, .inl (g.2 0, 28, .inl f)), (bk, .inl (g.2 0, 12, .inl k)), (bt, .inl (g.2 0, 8, .inl t)), (q_1, .inl (g.2 0, 28, .inl (lmF y k u w9))), (q_2, .inl (g.2 0, 8, .inl (lmT y k u w9)))] ++ (CW g ad q)) (x_rS (As := [.ref q_1, .ref bk, .ref q_2]) X (c_L_minute l g q_1 bk q_2 cn w9 y k u hn9 _) yf_L_minute ys_L_minute wM_L_90 ⟨Nat.le_of_ble_eq_true rfl, Nat.le_of_ble_eq_true rfl⟩ hP hD (cut2 (List.Perm.refl _) (wo_perm (ws' := [_, _, _] ++ [_, _]) 5 [3, 1, 4, 0, 2] rfl (by decide) rfl)) hl rfl rfl (Nat.le_of_ble_eq_true rfl) dL_law_1074 ⟨show cl + 1 + 1 ≤ 600000 from by omega, show sl + 28 + 8 ≤ 7302250 from by omega⟩) hP hD hS hA (cut2 (List.Perm.refl _) (wo_perm (ws' := [_, _, _] ++ [_, _]) 5 [3, 1, 4, 0, 2] rfl (by decide) rfl)) (back2 (wo_perm 5 [0, 3, 1, 2, 4] rfl (by decide) rfl) List.perm_append_comm) (fun H locs hP hD hS => ?_)
        refine lv_pop hx hb dL_law_1077 rfl ?_
        refine lv_iload hx hb dL_law_1078 (lv_at hl 1 rfl) ?_
        refine lv_if_ge (tgt := 1098) hx hb dL_law_1080 (by decide) (fun (c_15 : 0 ≤ fs) => ?_) (fun (c_15 : ¬ 0 ≤ fs) => ?_)
        · refine lv_iload hx hb dL_law_1098 (lv_at hl 1 rfl) ?_
          refine lv_istore (lv' := [(14, .int fs), (15, .int (nI (md + 1))), (13, .int (nI j_2)), (12, .int (nI j_1)), (11, .ref q_2), (10, .ref q_1), (5, .int (nI ei)), (1, .ref (ad 8 0)), (2, .ref bf), (3, .ref bk), (4, .ref bt), (0, .ref b)]) hx hb dL_law_1100 hl (by decide) rfl (fun ls hl => ?_)
          refine lv_iinc (v := (nI ((md + 1) + 1))) (lv' := [(15, .int (nI ((md + 1) + 1))), (14, .int fs), (13, .int (nI j_2)), (12, .int (nI j_1)), (11, .ref q_2), (10, .ref q_1), (5, .int (nI ei)), (1, .ref (ad 8 0)), (2, .ref bf), (3, .ref bk), (4, .ref bt), (0, .ref b)]) hx hb dL_law_1102 hl (k := 1) rfl (nI_add _ 1) (by decide) rfl (fun ls hl => ?_)
          refine lv_goto (tgt := 1062) hx hb dL_law_1105 (by decide) ?_
          exact ih (md + 1) (lmF y k u w9) (lmT y k u w9) (minZ cn xx (cT q 1) (cT q 2) (cT q 3)) (u9 + minR (cT q 3) xx) fs (by omega) hR2 hp (by have q9 := mt_step hM (by omega) (l_spread hR2); rw [if_pos c_15] at q9; exact q9) ls _ _ hP hD hS (lv_sub hl [0, 1, 2, 3, 4, 5, 6, 7, 8, 9, 10, 11] rfl)
        · refine lv_aload hx hb dL_law_1083 (lv_at hl 5 rfl) ?_
          refine x_goI (wn := [(bf, .inl (g.2 0, 28, .inl f)), (bk, .inl (g.2 0, 12, .inl k)), (bt, .inl (g.2 0, 8, .inl t)), (q_1, .inl (g.2 0, 28, .inl (lmF y k u w9))), (q_2, .inl (g.2 0, 8, .inl (lmT y k u w9)))] ++ (CW g ad q)) (x_rS (As := [.ref q_1]) X (c_L_spread l g q_1 (lmF y k u w9) hR2.fd _) yf_L_spread ys_L_spread wM_L_53 ⟨Nat.le_of_ble_eq_true rfl, Nat.le_of_ble_eq_true rfl⟩ hP hD (cut2 (List.Perm.refl _) (wo_perm (ws' := [_] ++ [_, _, _, _]) 5 [3, 0, 1, 2, 4] rfl (by decide) rfl)) hl rfl rfl (Nat.le_of_ble_eq_true rfl) dL_law_1085 ⟨show cl + 1 + 1 ≤ 600000 from by omega, show sl + 28 + 8 ≤ 7302250 from by omega⟩) hP hD hS hA (cut2 (List.Perm.refl _) (wo_perm (ws' := [_] ++ [_, _, _, _]) 5 [3, 0, 1, 2, 4] rfl (by decide) rfl)) (back2 (wo_perm 5 [0, 1, 2, 4, 3] rfl (by decide) rfl) List.perm_append_comm) (fun H locs hP hD hS => ?_)
          refine lv_iload hx hb dL_law_1088 (lv_at hl 2 rfl) ?_
          refine lv_icmp_lt (tgt := 1098) hx hb dL_law_1090 (by decide) (fun (c_16 : (spL (lmF y k u w9)) < (nI j_2)) => ?_) (fun (c_16 : ¬ (spL (lmF y k u w9)) < (nI j_2)) => ?_)
          · refine lv_iload hx hb dL_law_1098 (lv_at hl 1 rfl) ?_
            refine lv_istore (lv' := [(14, .int fs), (15, .int (nI (md + 1))), (13, .int (nI j_2)), (12, .int (nI j_1)), (11, .ref q_2), (10, .ref q_1), (5, .int (nI ei)), (1, .ref (ad 8 0)), (2, .ref bf), (3, .ref bk), (4, .ref bt), (0, .ref b)]) hx hb dL_law_1100 hl (by decide) rfl (fun ls hl => ?_)
            refine lv_iinc (v := (nI ((md + 1) + 1))) (lv' := [(15, .int (nI ((md + 1) + 1))), (14, .int fs), (13, .int (nI j_2)), (12, .int (nI j_1)), (11, .ref q_2), (10, .ref q_1), (5, .int (nI ei)), (1, .ref (ad 8 0)), (2, .ref bf), (3, .ref bk), (4, .ref bt), (0, .ref b)]) hx hb dL_law_1102 hl (k := 1) rfl (nI_add _ 1) (by decide) rfl (fun ls hl => ?_)
            refine lv_goto (tgt := 1062) hx hb dL_law_1105 (by decide) ?_
            exact ih (md + 1) (lmF y k u w9) (lmT y k u w9) (minZ cn xx (cT q 1) (cT q 2) (cT q 3)) (u9 + minR (cT q 3) xx) fs (by omega) hR2 hp (by have q9 := mt_step hM (by omega) (l_spread hR2); rw [if_neg c_15, if_pos c_16] at q9; exact q9) ls _ _ hP hD hS (lv_sub hl [0, 1, 2, 3, 4, 5, 6, 7, 8, 9, 10, 11] rfl)
          · refine lv_iload hx hb dL_law_1093 (lv_at hl 0 rfl) ?_
            refine lv_goto (tgt := 1100) hx hb dL_law_1095 (by decide) ?_
            refine lv_istore (lv' := [(14, .int (nI (md + 1))), (15, .int (nI (md + 1))), (13, .int (nI j_2)), (12, .int (nI j_1)), (11, .ref q_2), (10, .ref q_1), (5, .int (nI ei)), (1, .ref (ad 8 0)), (2, .ref bf), (3, .ref bk), (4, .ref bt), (0, .ref b)]) hx hb dL_law_1100 hl (by decide) rfl (fun ls hl => ?_)
            refine lv_iinc (v := (nI ((md + 1) + 1))) (lv' := [(15, .int (nI ((md + 1) + 1))), (14, .int (nI (md + 1))), (13, .int (nI j_2)), (12, .int (nI j_1)), (11, .ref q_2), (10, .ref q_1), (5, .int (nI ei)), (1, .ref (ad 8 0)), (2, .ref bf), (3, .ref bk), (4, .ref bt), (0, .ref b)]) hx hb dL_law_1102 hl (k := 1) rfl (nI_add _ 1) (by decide) rfl (fun ls hl => ?_)
            refine lv_goto (tgt := 1062) hx hb dL_law_1105 (by decide) ?_
            exact ih (md + 1) (lmF y k u w9) (lmT y k u w9) (minZ cn xx (cT q 1) (cT q 2) (cT q 3)) (u9 + minR (cT q 3) xx) (nI (md + 1)) (by omega) hR2 hp (by have q9 := mt_step hM (by omega) (l_spread hR2); rw [if_neg c_15, if_neg c_16] at q9; exact q9) ls _ _ hP hD hS (lv_sub hl [0, 1, 2, 3, 4, 5, 6, 7, 8, 9, 10, 11] rfl)
    · refine lv_iconst (v := 0) hx hb dL_law_1052 (by decide) ?_
      refine lv_goto (tgt := 1057) hx hb dL_law_1053 (by decide) ?_
      refine lv_istore (lv' := [(14, .int 0), (13, .int (nI j_2)), (12, .int (nI j_1)), (11, .ref q_2), (10, .ref q_1), (9, .int xv), (5, .int (nI ei)), (1, .ref (ad 8 0)), (2, .ref bf), (3, .ref bk), (4, .ref bt), (0, .ref b)]) hx hb dL_law_1057 hl (by decide) rfl (fun ls hl => ?_)
      refine lv_iconst (v := 1) hx hb dL_law_1059 (by decide) ?_
      refine lv_istore (lv' := [(15, .int 1), (14, .int 0), (13, .int (nI j_2)), (12, .int (nI j_1)), (11, .ref q_2), (10, .ref q_1), (9, .int xv), (5, .int (nI ei)), (1, .ref (ad 8 0)), (2, .ref bf), (3, .ref bk), (4, .ref bt), (0, .ref b)]) hx hb dL_law_1060 hl (by decide) rfl (fun ls hl => ?_)
      have hM0 : MTi cn (cT q 1) (cT q 2) (cT q 3) (nI j_2) (kMinutesTo q cn (nI j_2)).1 (cT q 0) 1 0 := by
        have q9 := mt_0 (sv := spL f) hnf (l_mt h (show j_2 ≤ 360 from by omega) hnf).1 (l_spread h)
        rw [if_neg c_2] at q9; exact q9
      suffices LP1062 : ∀ (n : Nat) (md : Nat) (y : Nat → Int32) (u : Nat → Int32) (xx : Nat → Int32) (u9 : Int32) (fs : Int32), md + n = j_1 → RTx (tm + md) cn xx (cT q 1) (cT q 2) (cT q 3) u y k S R → pmsC cn (cT q 1) (cT q 2) (cT q 3) n xx u9 = pmsC cn (cT q 1) (cT q 2) (cT q 3) j_1 (cT q 0) 0 → MTi cn (cT q 1) (cT q 2) (cT q 3) (nI j_2) (kMinutesTo q cn (nI j_2)).1 xx (md + 1) fs → ∀ (ls : Array Slot) (H : Heap) (locs : List Loc), va_P g.1 vwCl ([(bf, .inl (g.2 0, 28, .inl f)), (bk, .inl (g.2 0, 12, .inl k)), (bt, .inl (g.2 0, 8, .inl t)), (q_1, .inl (g.2 0, 28, .inl y)), (q_2, .inl (g.2 0, 8, .inl u))] ++ (CW g ad q)) H → va_D A ([(bf, .inl (g.2 0, 28, .inl f)), (bk, .inl (g.2 0, 12, .inl k)), (bt, .inl (g.2 0, 8, .inl t)), (q_1, .inl (g.2 0, 28, .inl y)), (q_2, .inl (g.2 0, 8, .inl u))] ++ (CW g ad q)) → va_S A s.heap H locs → lv_has ls 22 [(15, .int (nI (md + 1))), (14, .int fs), (13, .int (nI j_2)), (12, .int (nI j_1)), (11, .ref q_2), (10, .ref q_1), (5, .int (nI ei)), (1, .ref (ad 8 0)), (2, .ref bf), (3, .ref bk), (4, .ref bt), (0, .ref b)] → W p l e room_1 s m #[Value.ref b] below meth c H locs (cl + 1 + 1) (sl + 28 + 8) (lw_Z below #[Value.ref b] s) (F0 m 1062 ls []) from LP1062 j_1 0 f t (cT q 0) 0 0 (Nat.zero_add _) h rfl hM0 ls _ _ hP hD hS (lv_sub hl [0, 1, 2, 3, 4, 5, 7, 8, 9, 10, 11, 12] rfl)
      intro n
      induction n with
      | zero =>
        intro md y u xx u9 fs hmd hR hp hM ls H locs hP hD hS hl
        refine lv_iload hx hb dL_law_1062 (lv_at hl 0 rfl) ?_
        refine lv_iload hx hb dL_law_1064 (lv_at hl 3 rfl) ?_
        refine lv_icmp_gt (tgt := 1108) hx hb dL_law_1066 (by decide) (fun c_17 => ?_) (fun q9 => absurd (show (nI j_1) < (nI (md + 1)) from (nI_lt (by omega) (by omega))) (show ¬ ((nI j_1) < (nI (md + 1))) from q9))
        have emd : md = j_1 := by omega
        rw [emd] at hR hM
        have eT := (l_mt h (show j_2 ≤ 360 from by omega) hnf).2.1
        have eL := (l_mt h (show j_2 ≤ 360 from by omega) hnf).2.2
        have hB2 : bok (cT (kMinutesTo q cn (nI j_2)).2 0) := by rw [eT]; exact h.b
        have hz2 : cT (kMinutesTo q cn (nI j_2)).2 0 7 = nI cn := by rw [eT]; exact h.x7
        have hs9 : (kSpreadIn (kMinutesTo q cn (nI j_2)).2 cn (nI j_1)).1 = spL y := by rw [(l_sp _ cn (mn := j_1) (by omega)).1, eT, ← hp]; exact l_spread hR
        rcases mt_end (mn := j_1) hM (by omega) with ⟨a9, ha9, ef9, et9⟩ | ⟨ef9, et9⟩ | ⟨ef9, a9, hb9, ha9, et9⟩
        · subst ef9
          refine lv_aload_n hx hb dL_law_1108 rfl (lv_at hl 7 rfl) ?_
          refine lv_iload hx hb dL_law_1109 (lv_at hl 2 rfl) ?_
          refine x_goI (wn := [(bf, .inl (g.2 0, 28, .inl f)), (bk, .inl (g.2 0, 12, .inl k)), (bt, .inl (g.2 0, 8, .inl t)), (q_1, .inl (g.2 0, 28, .inl y)), (q_2, .inl (g.2 0, 8, .inl u))] ++ (CW g ad ((kMinutesTo q cn (nI j_2)).2))) (x_rV (As := [.int (nI j_2)]) X (c_X5_minutesTo l g ad q (nI j_2) h.b cn h.cn6 h.x7 _) yf_X5_minutesTo yi_X5_minutesTo wM_L_108 ⟨Nat.le_of_ble_eq_true rfl, Nat.le_of_ble_eq_true rfl⟩ hP hD List.perm_append_comm 0 rfl rfl hl rfl rfl (Nat.le_of_ble_eq_true rfl) dL_law_1111 ⟨show cl + 1 + 1 ≤ 600000 from by omega, show sl + 28 + 8 ≤ 7302250 from by omega⟩) hP hD hS hA List.perm_append_comm (List.Perm.refl _) (fun H locs hP hD hS => ?_)
          refine lv_istore (lv' := [(15, .int ((kMinutesTo q cn (nI j_2)).1)), (14, .int (nI a9)), (13, .int (nI j_2)), (12, .int (nI j_1)), (11, .ref q_2), (10, .ref q_1), (5, .int (nI ei)), (1, .ref (ad 8 0)), (2, .ref bf), (3, .ref bk), (4, .ref bt), (0, .ref b)]) hx hb dL_law_1114 hl (by decide) rfl (fun ls hl => ?_)
          refine lv_aload_n hx hb dL_law_1116 rfl (lv_at hl 7 rfl) ?_
          refine lv_iload hx hb dL_law_1117 (lv_at hl 3 rfl) ?_
          refine x_goI (wn := [(bf, .inl (g.2 0, 28, .inl f)), (bk, .inl (g.2 0, 12, .inl k)), (bt, .inl (g.2 0, 8, .inl t)), (q_1, .inl (g.2 0, 28, .inl y)), (q_2, .inl (g.2 0, 8, .inl u))] ++ (CW g ad ((kSpreadIn ((kMinutesTo q cn (nI j_2)).2) cn (nI j_1)).2))) (x_rV (As := [.int (nI j_1)]) X (c_X5_spreadIn l g ad ((kMinutesTo q cn (nI j_2)).2) (nI j_1) hB2 cn h.cn6 hz2 _) yf_X5_spreadIn yi_X5_spreadIn wM_L_111 ⟨Nat.le_of_ble_eq_true rfl, Nat.le_of_ble_eq_true rfl⟩ hP hD List.perm_append_comm 0 rfl rfl hl rfl rfl (Nat.le_of_ble_eq_true rfl) dL_law_1119 ⟨show cl + 1 + 1 ≤ 600000 from by omega, show sl + 28 + 8 ≤ 7302250 from by omega⟩) hP hD hS hA List.perm_append_comm (List.Perm.refl _) (fun H locs hP hD hS => ?_)
          refine lv_aload hx hb dL_law_1122 (lv_at hl 5 rfl) ?_
          refine x_goI (wn := [(bf, .inl (g.2 0, 28, .inl f)), (bk, .inl (g.2 0, 12, .inl k)), (bt, .inl (g.2 0, 8, .inl t)), (q_1, .inl (g.2 0, 28, .inl y)), (q_2, .inl (g.2 0, 8, .inl u))] ++ (CW g ad ((kSpreadIn ((kMinutesTo q cn (nI j_2)).2) cn (nI j_1)).2))) (x_rS (As := [.ref q_1]) X (c_L_spread l g q_1 y hR.fd _) yf_L_spread ys_L_spread wM_L_53 ⟨Nat.le_of_ble_eq_true rfl, Nat.le_of_ble_eq_true rfl⟩ hP hD (cut2 (List.Perm.refl _) (wo_perm (ws' := [_] ++ [_, _, _, _]) 5 [3, 0, 1, 2, 4] rfl (by decide) rfl)) hl rfl rfl (Nat.le_of_ble_eq_true rfl) dL_law_1124 ⟨show cl + 1 + 1 ≤ 600000 from by omega, show sl + 28 + 8 ≤ 7302250 from by omega⟩) hP hD hS hA (cut2 (List.Perm.refl _) (wo_perm (ws' := [_] ++ [_, _, _, _]) 5 [3, 0, 1, 2, 4] rfl (by decide) rfl)) (back2 (wo_perm 5 [0, 1, 2, 4, 3] rfl (by decide) rfl) List.perm_append_comm) (fun H locs hP hD hS => ?_)
          refine lv_icmp_ne (tgt := 1160) hx hb dL_law_1127 (by decide) (fun q9 => absurd (show ((kSpreadIn ((kMinutesTo q cn (nI j_2)).2) cn (nI j_1)).1) = (spL y) from hs9) q9) (fun c_18 => ?_)
          refine lv_iload hx hb dL_law_1130 (lv_at hl 1 rfl) ?_
          refine lv_if_lt (tgt := 1145) hx hb dL_law_1132 (by decide) (fun q9 => absurd q9 (show ¬ (nI a9) < 0 from (nI_pos ha9))) (fun c_19 => ?_)
          refine lv_iload hx hb dL_law_1135 (lv_at hl 0 rfl) ?_
          refine lv_iload hx hb dL_law_1137 (lv_at hl 1 rfl) ?_
          refine lv_icmp_eq (tgt := 1162) hx hb dL_law_1139 (by decide) (fun c_20 => ?_) (fun q9 => absurd (show ((kMinutesTo q cn (nI j_2)).1) = (nI a9) from et9) (show ¬ (((kMinutesTo q cn (nI j_2)).1) = (nI a9)) from q9))
          have hP := P_drop (a := LW g bf bk bt f k t) (b := [(q_1, .inl (g.2 0, 28, .inl y)), (q_2, .inl (g.2 0, 8, .inl u))]) hP
          have hD := D_drop (a := LW g bf bk bt f k t) (b := [(q_1, .inl (g.2 0, 28, .inl y)), (q_2, .inl (g.2 0, 8, .inl u))]) hD
          have h9 : RQx tm cn ((kSpreadIn ((kMinutesTo q cn (nI j_2)).2) cn (nI j_1)).2) t f k S R := by
            have e9 : cT ((kSpreadIn ((kMinutesTo q cn (nI j_2)).2) cn (nI j_1)).2) = cT q := ((l_sp _ cn (mn := j_1) (by omega)).2.1).trans eT
            show RTx tm cn (cT ((kSpreadIn ((kMinutesTo q cn (nI j_2)).2) cn (nI j_1)).2) 0) _ _ _ t f k S R
            rw [e9]; exact h
          have hq9 : cL ((kSpreadIn ((kMinutesTo q cn (nI j_2)).2) cn (nI j_1)).2) < 5 := by rw [(l_sp _ cn (mn := j_1) (by omega)).2.2, eL]; exact hq
          refine W.widen (k := cl + 2) (n := sl + 36) (by omega) (by omega) ?_
          exact nx _ h9 hq9 ls _ _ hP hD hS (lv_sub hl [6, 7, 8, 9, 10, 11] rfl)
        · subst ef9
          refine lv_aload_n hx hb dL_law_1108 rfl (lv_at hl 7 rfl) ?_
          refine lv_iload hx hb dL_law_1109 (lv_at hl 2 rfl) ?_
          refine x_goI (wn := [(bf, .inl (g.2 0, 28, .inl f)), (bk, .inl (g.2 0, 12, .inl k)), (bt, .inl (g.2 0, 8, .inl t)), (q_1, .inl (g.2 0, 28, .inl y)), (q_2, .inl (g.2 0, 8, .inl u))] ++ (CW g ad ((kMinutesTo q cn (nI j_2)).2))) (x_rV (As := [.int (nI j_2)]) X (c_X5_minutesTo l g ad q (nI j_2) h.b cn h.cn6 h.x7 _) yf_X5_minutesTo yi_X5_minutesTo wM_L_108 ⟨Nat.le_of_ble_eq_true rfl, Nat.le_of_ble_eq_true rfl⟩ hP hD List.perm_append_comm 0 rfl rfl hl rfl rfl (Nat.le_of_ble_eq_true rfl) dL_law_1111 ⟨show cl + 1 + 1 ≤ 600000 from by omega, show sl + 28 + 8 ≤ 7302250 from by omega⟩) hP hD hS hA List.perm_append_comm (List.Perm.refl _) (fun H locs hP hD hS => ?_)
          refine lv_istore (lv' := [(15, .int ((kMinutesTo q cn (nI j_2)).1)), (14, .int (-1)), (13, .int (nI j_2)), (12, .int (nI j_1)), (11, .ref q_2), (10, .ref q_1), (5, .int (nI ei)), (1, .ref (ad 8 0)), (2, .ref bf), (3, .ref bk), (4, .ref bt), (0, .ref b)]) hx hb dL_law_1114 hl (by decide) rfl (fun ls hl => ?_)
          refine lv_aload_n hx hb dL_law_1116 rfl (lv_at hl 7 rfl) ?_
          refine lv_iload hx hb dL_law_1117 (lv_at hl 3 rfl) ?_
          refine x_goI (wn := [(bf, .inl (g.2 0, 28, .inl f)), (bk, .inl (g.2 0, 12, .inl k)), (bt, .inl (g.2 0, 8, .inl t)), (q_1, .inl (g.2 0, 28, .inl y)), (q_2, .inl (g.2 0, 8, .inl u))] ++ (CW g ad ((kSpreadIn ((kMinutesTo q cn (nI j_2)).2) cn (nI j_1)).2))) (x_rV (As := [.int (nI j_1)]) X (c_X5_spreadIn l g ad ((kMinutesTo q cn (nI j_2)).2) (nI j_1) hB2 cn h.cn6 hz2 _) yf_X5_spreadIn yi_X5_spreadIn wM_L_111 ⟨Nat.le_of_ble_eq_true rfl, Nat.le_of_ble_eq_true rfl⟩ hP hD List.perm_append_comm 0 rfl rfl hl rfl rfl (Nat.le_of_ble_eq_true rfl) dL_law_1119 ⟨show cl + 1 + 1 ≤ 600000 from by omega, show sl + 28 + 8 ≤ 7302250 from by omega⟩) hP hD hS hA List.perm_append_comm (List.Perm.refl _) (fun H locs hP hD hS => ?_)
          refine lv_aload hx hb dL_law_1122 (lv_at hl 5 rfl) ?_
          refine x_goI (wn := [(bf, .inl (g.2 0, 28, .inl f)), (bk, .inl (g.2 0, 12, .inl k)), (bt, .inl (g.2 0, 8, .inl t)), (q_1, .inl (g.2 0, 28, .inl y)), (q_2, .inl (g.2 0, 8, .inl u))] ++ (CW g ad ((kSpreadIn ((kMinutesTo q cn (nI j_2)).2) cn (nI j_1)).2))) (x_rS (As := [.ref q_1]) X (c_L_spread l g q_1 y hR.fd _) yf_L_spread ys_L_spread wM_L_53 ⟨Nat.le_of_ble_eq_true rfl, Nat.le_of_ble_eq_true rfl⟩ hP hD (cut2 (List.Perm.refl _) (wo_perm (ws' := [_] ++ [_, _, _, _]) 5 [3, 0, 1, 2, 4] rfl (by decide) rfl)) hl rfl rfl (Nat.le_of_ble_eq_true rfl) dL_law_1124 ⟨show cl + 1 + 1 ≤ 600000 from by omega, show sl + 28 + 8 ≤ 7302250 from by omega⟩) hP hD hS hA (cut2 (List.Perm.refl _) (wo_perm (ws' := [_] ++ [_, _, _, _]) 5 [3, 0, 1, 2, 4] rfl (by decide) rfl)) (back2 (wo_perm 5 [0, 1, 2, 4, 3] rfl (by decide) rfl) List.perm_append_comm) (fun H locs hP hD hS => ?_)
          refine lv_icmp_ne (tgt := 1160) hx hb dL_law_1127 (by decide) (fun q9 => absurd (show ((kSpreadIn ((kMinutesTo q cn (nI j_2)).2) cn (nI j_1)).1) = (spL y) from hs9) q9) (fun c_21 => ?_)
          refine lv_iload hx hb dL_law_1130 (lv_at hl 1 rfl) ?_
          refine lv_if_lt (tgt := 1145) hx hb dL_law_1132 (by decide) (fun c_22 => ?_) (fun q9 => absurd (show (-1 : Int32) < 0 from (by decide)) (show ¬ ((-1 : Int32) < 0) from q9))
          refine lv_iload hx hb dL_law_1145 (lv_at hl 0 rfl) ?_
          refine lv_sipush (v := (-1000)) hx hb dL_law_1147 (by decide) ?_
          refine lv_icmp_eq (tgt := 1162) hx hb dL_law_1150 (by decide) (fun c_23 => ?_) (fun q9 => absurd (show ((kMinutesTo q cn (nI j_2)).1) = (-1000) from et9) (show ¬ (((kMinutesTo q cn (nI j_2)).1) = (-1000)) from q9))
          have hP := P_drop (a := LW g bf bk bt f k t) (b := [(q_1, .inl (g.2 0, 28, .inl y)), (q_2, .inl (g.2 0, 8, .inl u))]) hP
          have hD := D_drop (a := LW g bf bk bt f k t) (b := [(q_1, .inl (g.2 0, 28, .inl y)), (q_2, .inl (g.2 0, 8, .inl u))]) hD
          have h9 : RQx tm cn ((kSpreadIn ((kMinutesTo q cn (nI j_2)).2) cn (nI j_1)).2) t f k S R := by
            have e9 : cT ((kSpreadIn ((kMinutesTo q cn (nI j_2)).2) cn (nI j_1)).2) = cT q := ((l_sp _ cn (mn := j_1) (by omega)).2.1).trans eT
            show RTx tm cn (cT ((kSpreadIn ((kMinutesTo q cn (nI j_2)).2) cn (nI j_1)).2) 0) _ _ _ t f k S R
            rw [e9]; exact h
          have hq9 : cL ((kSpreadIn ((kMinutesTo q cn (nI j_2)).2) cn (nI j_1)).2) < 5 := by rw [(l_sp _ cn (mn := j_1) (by omega)).2.2, eL]; exact hq
          refine W.widen (k := cl + 2) (n := sl + 36) (by omega) (by omega) ?_
          exact nx _ h9 hq9 ls _ _ hP hD hS (lv_sub hl [6, 7, 8, 9, 10, 11] rfl)
        · subst ef9
          refine lv_aload_n hx hb dL_law_1108 rfl (lv_at hl 7 rfl) ?_
          refine lv_iload hx hb dL_law_1109 (lv_at hl 2 rfl) ?_
          refine x_goI (wn := [(bf, .inl (g.2 0, 28, .inl f)), (bk, .inl (g.2 0, 12, .inl k)), (bt, .inl (g.2 0, 8, .inl t)), (q_1, .inl (g.2 0, 28, .inl y)), (q_2, .inl (g.2 0, 8, .inl u))] ++ (CW g ad ((kMinutesTo q cn (nI j_2)).2))) (x_rV (As := [.int (nI j_2)]) X (c_X5_minutesTo l g ad q (nI j_2) h.b cn h.cn6 h.x7 _) yf_X5_minutesTo yi_X5_minutesTo wM_L_108 ⟨Nat.le_of_ble_eq_true rfl, Nat.le_of_ble_eq_true rfl⟩ hP hD List.perm_append_comm 0 rfl rfl hl rfl rfl (Nat.le_of_ble_eq_true rfl) dL_law_1111 ⟨show cl + 1 + 1 ≤ 600000 from by omega, show sl + 28 + 8 ≤ 7302250 from by omega⟩) hP hD hS hA List.perm_append_comm (List.Perm.refl _) (fun H locs hP hD hS => ?_)
          refine lv_istore (lv' := [(15, .int ((kMinutesTo q cn (nI j_2)).1)), (14, .int (-1)), (13, .int (nI j_2)), (12, .int (nI j_1)), (11, .ref q_2), (10, .ref q_1), (5, .int (nI ei)), (1, .ref (ad 8 0)), (2, .ref bf), (3, .ref bk), (4, .ref bt), (0, .ref b)]) hx hb dL_law_1114 hl (by decide) rfl (fun ls hl => ?_)
          refine lv_aload_n hx hb dL_law_1116 rfl (lv_at hl 7 rfl) ?_
          refine lv_iload hx hb dL_law_1117 (lv_at hl 3 rfl) ?_
          refine x_goI (wn := [(bf, .inl (g.2 0, 28, .inl f)), (bk, .inl (g.2 0, 12, .inl k)), (bt, .inl (g.2 0, 8, .inl t)), (q_1, .inl (g.2 0, 28, .inl y)), (q_2, .inl (g.2 0, 8, .inl u))] ++ (CW g ad ((kSpreadIn ((kMinutesTo q cn (nI j_2)).2) cn (nI j_1)).2))) (x_rV (As := [.int (nI j_1)]) X (c_X5_spreadIn l g ad ((kMinutesTo q cn (nI j_2)).2) (nI j_1) hB2 cn h.cn6 hz2 _) yf_X5_spreadIn yi_X5_spreadIn wM_L_111 ⟨Nat.le_of_ble_eq_true rfl, Nat.le_of_ble_eq_true rfl⟩ hP hD List.perm_append_comm 0 rfl rfl hl rfl rfl (Nat.le_of_ble_eq_true rfl) dL_law_1119 ⟨show cl + 1 + 1 ≤ 600000 from by omega, show sl + 28 + 8 ≤ 7302250 from by omega⟩) hP hD hS hA List.perm_append_comm (List.Perm.refl _) (fun H locs hP hD hS => ?_)
          refine lv_aload hx hb dL_law_1122 (lv_at hl 5 rfl) ?_
          refine x_goI (wn := [(bf, .inl (g.2 0, 28, .inl f)), (bk, .inl (g.2 0, 12, .inl k)), (bt, .inl (g.2 0, 8, .inl t)), (q_1, .inl (g.2 0, 28, .inl y)), (q_2, .inl (g.2 0, 8, .inl u))] ++ (CW g ad ((kSpreadIn ((kMinutesTo q cn (nI j_2)).2) cn (nI j_1)).2))) (x_rS (As := [.ref q_1]) X (c_L_spread l g q_1 y hR.fd _) yf_L_spread ys_L_spread wM_L_53 ⟨Nat.le_of_ble_eq_true rfl, Nat.le_of_ble_eq_true rfl⟩ hP hD (cut2 (List.Perm.refl _) (wo_perm (ws' := [_] ++ [_, _, _, _]) 5 [3, 0, 1, 2, 4] rfl (by decide) rfl)) hl rfl rfl (Nat.le_of_ble_eq_true rfl) dL_law_1124 ⟨show cl + 1 + 1 ≤ 600000 from by omega, show sl + 28 + 8 ≤ 7302250 from by omega⟩) hP hD hS hA (cut2 (List.Perm.refl _) (wo_perm (ws' := [_] ++ [_, _, _, _]) 5 [3, 0, 1, 2, 4] rfl (by decide) rfl)) (back2 (wo_perm 5 [0, 1, 2, 4, 3] rfl (by decide) rfl) List.perm_append_comm) (fun H locs hP hD hS => ?_)
          refine lv_icmp_ne (tgt := 1160) hx hb dL_law_1127 (by decide) (fun q9 => absurd (show ((kSpreadIn ((kMinutesTo q cn (nI j_2)).2) cn (nI j_1)).1) = (spL y) from hs9) q9) (fun c_24 => ?_)
          refine lv_iload hx hb dL_law_1130 (lv_at hl 1 rfl) ?_
          refine lv_if_lt (tgt := 1145) hx hb dL_law_1132 (by decide) (fun c_25 => ?_) (fun q9 => absurd (show (-1 : Int32) < 0 from (by decide)) (show ¬ ((-1 : Int32) < 0) from q9))
          refine lv_iload hx hb dL_law_1145 (lv_at hl 0 rfl) ?_
          refine lv_sipush (v := (-1000)) hx hb dL_law_1147 (by decide) ?_
          refine lv_icmp_eq (tgt := 1162) hx hb dL_law_1150 (by decide) (fun q9 => absurd q9 (show ¬ ((kMinutesTo q cn (nI j_2)).1) = (-1000) from (by rw [et9]; exact ne1000 ha9))) (fun c_26 => ?_)
          refine lv_iload hx hb dL_law_1153 (lv_at hl 0 rfl) ?_
          refine lv_iload hx hb dL_law_1155 (lv_at hl 3 rfl) ?_
          refine lv_icmp_gt (tgt := 1162) hx hb dL_law_1157 (by decide) (fun c_27 => ?_) (fun q9 => absurd (show (nI j_1) < ((kMinutesTo q cn (nI j_2)).1) from (by rw [et9]; exact nI_lt hb9 ha9)) (show ¬ ((nI j_1) < ((kMinutesTo q cn (nI j_2)).1)) from q9))
          have hP := P_drop (a := LW g bf bk bt f k t) (b := [(q_1, .inl (g.2 0, 28, .inl y)), (q_2, .inl (g.2 0, 8, .inl u))]) hP
          have hD := D_drop (a := LW g bf bk bt f k t) (b := [(q_1, .inl (g.2 0, 28, .inl y)), (q_2, .inl (g.2 0, 8, .inl u))]) hD
          have h9 : RQx tm cn ((kSpreadIn ((kMinutesTo q cn (nI j_2)).2) cn (nI j_1)).2) t f k S R := by
            have e9 : cT ((kSpreadIn ((kMinutesTo q cn (nI j_2)).2) cn (nI j_1)).2) = cT q := ((l_sp _ cn (mn := j_1) (by omega)).2.1).trans eT
            show RTx tm cn (cT ((kSpreadIn ((kMinutesTo q cn (nI j_2)).2) cn (nI j_1)).2) 0) _ _ _ t f k S R
            rw [e9]; exact h
          have hq9 : cL ((kSpreadIn ((kMinutesTo q cn (nI j_2)).2) cn (nI j_1)).2) < 5 := by rw [(l_sp _ cn (mn := j_1) (by omega)).2.2, eL]; exact hq
          refine W.widen (k := cl + 2) (n := sl + 36) (by omega) (by omega) ?_
          exact nx _ h9 hq9 ls _ _ hP hD hS (lv_sub hl [6, 7, 8, 9, 10, 11] rfl)
      | succ n ih =>
        intro md y u xx u9 fs hmd hR hp hM ls H locs hP hD hS hl
        refine lv_iload hx hb dL_law_1062 (lv_at hl 0 rfl) ?_
        refine lv_iload hx hb dL_law_1064 (lv_at hl 3 rfl) ?_
        refine lv_icmp_gt (tgt := 1108) hx hb dL_law_1066 (by decide) (fun q9 => absurd q9 (show ¬ (nI j_1) < (nI (md + 1)) from (nI_nlt (by omega) (by omega)))) (fun c_28 => ?_)
        refine lv_aload hx hb dL_law_1069 (lv_at hl 5 rfl) ?_
        refine lv_aload_n hx hb dL_law_1071 rfl (lv_at hl 9 rfl) ?_
        refine lv_aload hx hb dL_law_1072 (lv_at hl 4 rfl) ?_
        obtain ⟨w9, hn9, hR2, hu2⟩ := hR.min (by omega)
        refine x_goI (wn := [(bf, .inl (g.2 0, 28, .inl f)), (bk, .inl (g.2 0, 12, .inl k)), (bt, .inl (g.2 0, 8, .inl t)), (q_1, .inl (g.2 0, 28, .inl (lmF y k u w9))), (q_2, .inl (g.2 0, 8, .inl (lmT y k u w9)))] ++ (CW g ad q)) (x_rS (As := [.ref q_1, .ref bk, .ref q_2]) X (c_L_minute l g q_1 bk q_2 cn w9 y k u hn9 _) yf_L_minute ys_L_minute wM_L_90 ⟨Nat.le_of_ble_eq_true rfl, Nat.le_of_ble_eq_true rfl⟩ hP hD (cut2 (List.Perm.refl _) (wo_perm (ws' := [_, _, _] ++ [_, _]) 5 [3, 1, 4, 0, 2] rfl (by decide) rfl)) hl rfl rfl (Nat.le_of_ble_eq_true rfl) dL_law_1074 ⟨show cl + 1 + 1 ≤ 600000 from by omega, show sl + 28 + 8 ≤ 7302250 from by omega⟩) hP hD hS hA (cut2 (List.Perm.refl _) (wo_perm (ws' := [_, _, _] ++ [_, _]) 5 [3, 1, 4, 0, 2] rfl (by decide) rfl)) (back2 (wo_perm 5 [0, 3, 1, 2, 4] rfl (by decide) rfl) List.perm_append_comm) (fun H locs hP hD hS => ?_)
        refine lv_pop hx hb dL_law_1077 rfl ?_
        refine lv_iload hx hb dL_law_1078 (lv_at hl 1 rfl) ?_
        refine lv_if_ge (tgt := 1098) hx hb dL_law_1080 (by decide) (fun (c_29 : 0 ≤ fs) => ?_) (fun (c_29 : ¬ 0 ≤ fs) => ?_)
        · refine lv_iload hx hb dL_law_1098 (lv_at hl 1 rfl) ?_
          refine lv_istore (lv' := [(14, .int fs), (15, .int (nI (md + 1))), (13, .int (nI j_2)), (12, .int (nI j_1)), (11, .ref q_2), (10, .ref q_1), (5, .int (nI ei)), (1, .ref (ad 8 0)), (2, .ref bf), (3, .ref bk), (4, .ref bt), (0, .ref b)]) hx hb dL_law_1100 hl (by decide) rfl (fun ls hl => ?_)
          refine lv_iinc (v := (nI ((md + 1) + 1))) (lv' := [(15, .int (nI ((md + 1) + 1))), (14, .int fs), (13, .int (nI j_2)), (12, .int (nI j_1)), (11, .ref q_2), (10, .ref q_1), (5, .int (nI ei)), (1, .ref (ad 8 0)), (2, .ref bf), (3, .ref bk), (4, .ref bt), (0, .ref b)]) hx hb dL_law_1102 hl (k := 1) rfl (nI_add _ 1) (by decide) rfl (fun ls hl => ?_)
          refine lv_goto (tgt := 1062) hx hb dL_law_1105 (by decide) ?_
          exact ih (md + 1) (lmF y k u w9) (lmT y k u w9) (minZ cn xx (cT q 1) (cT q 2) (cT q 3)) (u9 + minR (cT q 3) xx) fs (by omega) hR2 hp (by have q9 := mt_step hM (by omega) (l_spread hR2); rw [if_pos c_29] at q9; exact q9) ls _ _ hP hD hS (lv_sub hl [0, 1, 2, 3, 4, 5, 6, 7, 8, 9, 10, 11] rfl)
        · refine lv_aload hx hb dL_law_1083 (lv_at hl 5 rfl) ?_
          refine x_goI (wn := [(bf, .inl (g.2 0, 28, .inl f)), (bk, .inl (g.2 0, 12, .inl k)), (bt, .inl (g.2 0, 8, .inl t)), (q_1, .inl (g.2 0, 28, .inl (lmF y k u w9))), (q_2, .inl (g.2 0, 8, .inl (lmT y k u w9)))] ++ (CW g ad q)) (x_rS (As := [.ref q_1]) X (c_L_spread l g q_1 (lmF y k u w9) hR2.fd _) yf_L_spread ys_L_spread wM_L_53 ⟨Nat.le_of_ble_eq_true rfl, Nat.le_of_ble_eq_true rfl⟩ hP hD (cut2 (List.Perm.refl _) (wo_perm (ws' := [_] ++ [_, _, _, _]) 5 [3, 0, 1, 2, 4] rfl (by decide) rfl)) hl rfl rfl (Nat.le_of_ble_eq_true rfl) dL_law_1085 ⟨show cl + 1 + 1 ≤ 600000 from by omega, show sl + 28 + 8 ≤ 7302250 from by omega⟩) hP hD hS hA (cut2 (List.Perm.refl _) (wo_perm (ws' := [_] ++ [_, _, _, _]) 5 [3, 0, 1, 2, 4] rfl (by decide) rfl)) (back2 (wo_perm 5 [0, 1, 2, 4, 3] rfl (by decide) rfl) List.perm_append_comm) (fun H locs hP hD hS => ?_)
          refine lv_iload hx hb dL_law_1088 (lv_at hl 2 rfl) ?_
          refine lv_icmp_lt (tgt := 1098) hx hb dL_law_1090 (by decide) (fun (c_30 : (spL (lmF y k u w9)) < (nI j_2)) => ?_) (fun (c_30 : ¬ (spL (lmF y k u w9)) < (nI j_2)) => ?_)
          · refine lv_iload hx hb dL_law_1098 (lv_at hl 1 rfl) ?_
            refine lv_istore (lv' := [(14, .int fs), (15, .int (nI (md + 1))), (13, .int (nI j_2)), (12, .int (nI j_1)), (11, .ref q_2), (10, .ref q_1), (5, .int (nI ei)), (1, .ref (ad 8 0)), (2, .ref bf), (3, .ref bk), (4, .ref bt), (0, .ref b)]) hx hb dL_law_1100 hl (by decide) rfl (fun ls hl => ?_)
            refine lv_iinc (v := (nI ((md + 1) + 1))) (lv' := [(15, .int (nI ((md + 1) + 1))), (14, .int fs), (13, .int (nI j_2)), (12, .int (nI j_1)), (11, .ref q_2), (10, .ref q_1), (5, .int (nI ei)), (1, .ref (ad 8 0)), (2, .ref bf), (3, .ref bk), (4, .ref bt), (0, .ref b)]) hx hb dL_law_1102 hl (k := 1) rfl (nI_add _ 1) (by decide) rfl (fun ls hl => ?_)
            refine lv_goto (tgt := 1062) hx hb dL_law_1105 (by decide) ?_
            exact ih (md + 1) (lmF y k u w9) (lmT y k u w9) (minZ cn xx (cT q 1) (cT q 2) (cT q 3)) (u9 + minR (cT q 3) xx) fs (by omega) hR2 hp (by have q9 := mt_step hM (by omega) (l_spread hR2); rw [if_neg c_29, if_pos c_30] at q9; exact q9) ls _ _ hP hD hS (lv_sub hl [0, 1, 2, 3, 4, 5, 6, 7, 8, 9, 10, 11] rfl)
          · refine lv_iload hx hb dL_law_1093 (lv_at hl 0 rfl) ?_
            refine lv_goto (tgt := 1100) hx hb dL_law_1095 (by decide) ?_
            refine lv_istore (lv' := [(14, .int (nI (md + 1))), (15, .int (nI (md + 1))), (13, .int (nI j_2)), (12, .int (nI j_1)), (11, .ref q_2), (10, .ref q_1), (5, .int (nI ei)), (1, .ref (ad 8 0)), (2, .ref bf), (3, .ref bk), (4, .ref bt), (0, .ref b)]) hx hb dL_law_1100 hl (by decide) rfl (fun ls hl => ?_)
            refine lv_iinc (v := (nI ((md + 1) + 1))) (lv' := [(15, .int (nI ((md + 1) + 1))), (14, .int (nI (md + 1))), (13, .int (nI j_2)), (12, .int (nI j_1)), (11, .ref q_2), (10, .ref q_1), (5, .int (nI ei)), (1, .ref (ad 8 0)), (2, .ref bf), (3, .ref bk), (4, .ref bt), (0, .ref b)]) hx hb dL_law_1102 hl (k := 1) rfl (nI_add _ 1) (by decide) rfl (fun ls hl => ?_)
            refine lv_goto (tgt := 1062) hx hb dL_law_1105 (by decide) ?_
            exact ih (md + 1) (lmF y k u w9) (lmT y k u w9) (minZ cn xx (cT q 1) (cT q 2) (cT q 3)) (u9 + minR (cT q 3) xx) (nI (md + 1)) (by omega) hR2 hp (by have q9 := mt_step hM (by omega) (l_spread hR2); rw [if_neg c_29, if_neg c_30] at q9; exact q9) ls _ _ hP hD hS (lv_sub hl [0, 1, 2, 3, 4, 5, 6, 7, 8, 9, 10, 11] rfl)


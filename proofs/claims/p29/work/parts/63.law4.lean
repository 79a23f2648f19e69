set_option maxHeartbeats 4000000 in
set_option maxRecDepth 100000 in
theorem lw_c8 {p : Program} {l : Launch} {e : Env} {s : State} {m : MethodId} {below : List Frame} {meth : Method} {c : Code} {g : wG} {tt : Nat → Nat} {b L : Nat} {xs : Nat → Int32} {A : Nat → Prop} {ad : Nat → Nat → Nat} {bf bk bt cl sl : Nat} (Z : LwX p s m c g tt b L xs A) (hcl : cl + 10 ≤ 600000) (hsl : sl + 180 ≤ 7302250) {tm cn : Nat} {q : CS} {t f k : RI} {S R : Nat → Nat} (h : RQx tm cn q t f k S R) (hq : cL q < 5) (ht9 : tm + 800 ≤ 999999) {ei fi : Nat} {hh : Int32} (hfi : fi < 4) (nx : ∀ (tm' cn' : Nat) (q' : CS) (t' f' k' : RI) (S' R' : Nat → Nat), RQx tm' cn' q' t' f' k' S' R' → cL q' < 5 → tm' ≤ tm + 800 → LwG p l e s m below meth c g b A [(8, .int 1), (5, .int (nI ei)), (1, .ref (ad 8 0)), (2, .ref bf), (3, .ref bk), (4, .ref bt), (0, .ref b)] 950 cl sl (LW g bf bk bt f' k' t' ++ CW g ad q')) : LwG p l e s m below meth c g b A [(8, .int 1), (7, .int (nI fi)), (6, .int hh), (5, .int (nI ei)), (1, .ref (ad 8 0)), (2, .ref bf), (3, .ref bk), (4, .ref bt), (0, .ref b)] 748 cl sl (LW g bf bk bt f k t ++ CW g ad q) := by
  obtain ⟨X, hZ, hT, hL, hA⟩ := Z
  obtain ⟨⟨hx, hb, hml, hown, hts⟩, hK, hN⟩ := id X
  have hc6 := h.cn6
  intro ls H locs hP hD hS hl
  have hP : va_P g.1 vwCl ([(bf, .inl (g.2 0, 28, .inl f)), (bk, .inl (g.2 0, 12, .inl k)), (bt, .inl (g.2 0, 8, .inl t))] ++ (CW g ad q)) H := hP
  have hD : va_D A ([(bf, .inl (g.2 0, 28, .inl f)), (bk, .inl (g.2 0, 12, .inl k)), (bt, .inl (g.2 0, 8, .inl t))] ++ (CW g ad q)) := hD
  refine lv_iload hx hb dL_law_748 (lv_at hl 2 rfl) ?_
  refine lv_bipush (v := 7) hx hb dL_law_750 (by decide) ?_
  refine lv_ishr hx hb dL_law_752 ?_
  refine lv_iconst (v := 3) hx hb dL_law_753 (by decide) ?_
  obtain ⟨j_1, hj_1, ej_1⟩ : ∃ j, j < 3 ∧ lowF (hh >>> (7 &&& 31)) 3 = nI j := low_n (hh >>> (7 &&& 31)) (n := 3) (by decide) (by decide)
  refine x_goI (wn := [(bf, .inl (g.2 0, 28, .inl f)), (bk, .inl (g.2 0, 12, .inl k)), (bt, .inl (g.2 0, 8, .inl t))] ++ (CW g ad q)) (x_rS (As := [.int (hh >>> (7 &&& 31)), .int 3]) X (c_L_lowj l g (hh >>> (7 &&& 31)) 3 j_1 (by decide) ej_1 _) yf_L_low ys_L_low wM_L_33 ⟨Nat.le_of_ble_eq_true rfl, Nat.le_of_ble_eq_true rfl⟩ hP hD (p_none _) hl rfl rfl (Nat.le_of_ble_eq_true rfl) dL_law_754 ⟨show cl ≤ 600000 from by omega, show sl ≤ 7302250 from by omega⟩) hP hD hS hA (p_none _) (p_noneB _) (fun H locs hP hD hS => ?_)
  refine lv_istore (lv' := [(17, .int (nI j_1)), (8, .int 1), (7, .int (nI fi)), (6, .int hh), (5, .int (nI ei)), (1, .ref (ad 8 0)), (2, .ref bf), (3, .ref bk), (4, .ref bt), (0, .ref b)]) hx hb dL_law_757 hl (by decide) rfl (fun ls hl => ?_)
  refine lv_iload hx hb dL_law_759 (lv_at hl 0 rfl) ?_
  refine lv_if_ne (tgt := 779) hx hb dL_law_761 (by decide) (fun (c_1 : ¬ (nI j_1) = 0) => ?_) (fun (c_1 : (nI j_1) = 0) => ?_)
  · refine lv_iload hx hb dL_law_779 (lv_at hl 0 rfl) ?_
    refine lv_iconst (v := 1) hx hb dL_law_781 (by decide) ?_
    refine lv_icmp_ne (tgt := 798) hx hb dL_law_782 (by decide) (fun (c_2 : ¬ (nI j_1) = 1) => ?_) (fun (c_2 : (nI j_1) = 1) => ?_)
    · refine lv_bipush (v := 100) hx hb dL_law_798 (by decide) ?_
      refine lv_iload hx hb dL_law_800 (lv_at hl 3 rfl) ?_
      refine lv_bipush (v := 9) hx hb dL_law_802 (by decide) ?_
      refine lv_ishr hx hb dL_law_804 ?_
      refine lv_iload hx hb dL_law_805 (lv_at hl 3 rfl) ?_
      refine lv_bipush (v := 25) hx hb dL_law_807 (by decide) ?_
      refine lv_ishr hx hb dL_law_809 ?_
      refine lv_iconst (v := 2) hx hb dL_law_810 (by decide) ?_
      obtain ⟨j_2, hj_2, ej_2⟩ : ∃ j, j < 2 ∧ lowF (hh >>> (25 &&& 31)) 2 = nI j := low_n (hh >>> (25 &&& 31)) (n := 2) (by decide) (by decide)
      refine x_goI (wn := [(bf, .inl (g.2 0, 28, .inl f)), (bk, .inl (g.2 0, 12, .inl k)), (bt, .inl (g.2 0, 8, .inl t))] ++ (CW g ad q)) (x_rS (As := [.int (hh >>> (25 &&& 31)), .int 2]) X (c_L_lowj l g (hh >>> (25 &&& 31)) 2 j_2 (by decide) ej_2 _) yf_L_low ys_L_low wM_L_33 ⟨Nat.le_of_ble_eq_true rfl, Nat.le_of_ble_eq_true rfl⟩ hP hD (p_none _) hl rfl rfl (Nat.le_of_ble_eq_true rfl) dL_law_811 ⟨show cl ≤ 600000 from by omega, show sl ≤ 7302250 from by omega⟩) hP hD hS hA (p_none _) (p_noneB _) (fun H locs hP hD hS => ?_)
      refine lv_if_ne (tgt := 823) hx hb dL_law_814 (by decide) (fun (c_3 : ¬ (nI j_2) = 0) => ?_) (fun (c_3 : (nI j_2) = 0) => ?_)
      · refine lv_sipush (v := 200) hx hb dL_law_823 (by decide) ?_
        obtain ⟨j_3, hj_3, ej_3⟩ : ∃ j, j < 200 ∧ lowF (hh >>> (9 &&& 31)) 200 = nI j := low_n (hh >>> (9 &&& 31)) (n := 200) (by decide) (by decide)
        refine x_goI (wn := [(bf, .inl (g.2 0, 28, .inl f)), (bk, .inl (g.2 0, 12, .inl k)), (bt, .inl (g.2 0, 8, .inl t))] ++ (CW g ad q)) (x_rS (As := [.int (hh >>> (9 &&& 31)), .int 200]) X (c_L_lowj l g (hh >>> (9 &&& 31)) 200 j_3 (by decide) ej_3 _) yf_L_low ys_L_low wM_L_33 ⟨Nat.le_of_ble_eq_true rfl, Nat.le_of_ble_eq_true rfl⟩ hP hD (p_none _) hl rfl rfl (Nat.le_of_ble_eq_true rfl) dL_law_826 ⟨show cl ≤ 600000 from by omega, show sl ≤ 7302250 from by omega⟩) hP hD hS hA (p_none _) (p_noneB _) (fun H locs hP hD hS => ?_)
        refine lv_iadd hx hb dL_law_829 ?_
        have ew9 : j_1 = 2 := by
          have z0 : j_1 ≠ 0 := fun z => c_1 (by rw [z]; rfl)
          have z1 : j_1 ≠ 1 := fun z => c_2 (by rw [z]; rfl)
          omega
        have G9 := l_set h hj_1 (v := (100 + (nI j_3))) (by rw [ew9, show loS (nI 2) = nI 100 from by decide, show hiS (nI 2) = nI 5000 from by decide, show (100 + (nI j_3)) = nI (100 + j_3) from (z_add rfl rfl)]; exact isw_no (by omega) (by omega) (by decide))
        refine lv_istore (lv' := [(18, .int (100 + (nI j_3))), (17, .int (nI j_1)), (8, .int 1), (7, .int (nI fi)), (6, .int hh), (5, .int (nI ei)), (1, .ref (ad 8 0)), (2, .ref bf), (3, .ref bk), (4, .ref bt), (0, .ref b)]) hx hb dL_law_830 hl (by decide) rfl (fun ls hl => ?_)
        refine lv_aload_n hx hb dL_law_832 rfl (lv_at hl 6 rfl) ?_
        refine lv_iload hx hb dL_law_833 (lv_at hl 1 rfl) ?_
        refine lv_iload hx hb dL_law_835 (lv_at hl 0 rfl) ?_
        refine x_goI (wn := [(bf, .inl (g.2 0, 28, .inl f)), (bk, .inl (g.2 0, 12, .inl k)), (bt, .inl (g.2 0, 8, .inl t))] ++ (CW g ad ((kSet q (nI j_1) (100 + (nI j_3))).2))) (x_rVS (As := [.int (nI j_1), .int (100 + (nI j_3))]) X hZ (c_X5_set l g tt ad q (nI j_1) (100 + (nI j_3)) h.b hq _) yf_X5_set yi_X5_set wM_L_87 ⟨Nat.le_of_ble_eq_true rfl, Nat.le_of_ble_eq_true rfl⟩ hP hD hS hA List.perm_append_comm 0 rfl rfl hl rfl rfl (Nat.le_of_ble_eq_true rfl) dL_law_837 ⟨show cl ≤ 600000 from by omega, show sl ≤ 7302250 from by omega⟩) hP hD hS hA List.perm_append_comm (List.Perm.refl _) (fun H locs hP hD hS => ?_)
        refine lv_aload hx hb dL_law_840 (lv_at hl 9 rfl) ?_
        refine lv_iconst (v := 1) hx hb dL_law_842 (by decide) ?_
        refine lv_iload hx hb dL_law_843 (lv_at hl 1 rfl) ?_
        refine lv_iadd hx hb dL_law_845 ?_
        refine x_iald (v := (t (1 + j_1))) X 2 (1 + j_1) hP rfl (z_add rfl rfl) (by omega) (Nat.le_of_ble_eq_true rfl) rfl dL_law_846 ?_
        refine lv_icmp_ne (tgt := 854) hx hb dL_law_847 (by decide) (fun q9 => absurd (show ((kSet q (nI j_1) (100 + (nI j_3))).1) = (t (1 + j_1)) from G9.1) q9) (fun c_4 => ?_)
        refine lv_iconst (v := 1) hx hb dL_law_850 (by decide) ?_
        refine lv_goto (tgt := 855) hx hb dL_law_851 (by decide) ?_
        refine lv_istore (lv' := [(8, .int 1), (18, .int (100 + (nI j_3))), (17, .int (nI j_1)), (7, .int (nI fi)), (6, .int hh), (5, .int (nI ei)), (1, .ref (ad 8 0)), (2, .ref bf), (3, .ref bk), (4, .ref bt), (0, .ref b)]) hx hb dL_law_855 hl (by decide) rfl (fun ls hl => ?_)
        refine lv_aload hx hb dL_law_857 (lv_at hl 9 rfl) ?_
        refine lv_iconst (v := 1) hx hb dL_law_859 (by decide) ?_
        refine lv_iload hx hb dL_law_860 (lv_at hl 2 rfl) ?_
        refine lv_iadd hx hb dL_law_862 ?_
        refine lv_iload hx hb dL_law_863 (lv_at hl 1 rfl) ?_
        refine x_iast (ws2 := [(bf, .inl (g.2 0, 28, .inl f)), (bk, .inl (g.2 0, 12, .inl k)), (bt, .inl (g.2 0, 8, .inl (upd t (1 + j_1) (100 + (nI j_3)))))] ++ (CW g ad ((kSet q (nI j_1) (100 + (nI j_3))).2))) X 2 (1 + j_1) hP hD hS rfl (z_add rfl rfl) (by omega) (Nat.le_of_ble_eq_true rfl) rfl dL_law_865 (fun H locs hP hD hS => ?_)
        refine lv_goto (tgt := 950) hx hb dL_law_866 (by decide) ?_
        exact nx _ _ _ _ _ _ _ _ G9.2.1 G9.2.2 (Nat.le_add_right _ _) ls _ _ hP hD hS (lv_sub hl [0, 5, 6, 7, 8, 9, 10] rfl)
      · refine lv_sipush (v := 4901) hx hb dL_law_817 (by decide) ?_
        refine lv_goto (tgt := 826) hx hb dL_law_820 (by decide) ?_
        obtain ⟨j_4, hj_4, ej_4⟩ : ∃ j, j < 4901 ∧ lowF (hh >>> (9 &&& 31)) 4901 = nI j := low_n (hh >>> (9 &&& 31)) (n := 4901) (by decide) (by decide)
        refine x_goI (wn := [(bf, .inl (g.2 0, 28, .inl f)), (bk, .inl (g.2 0, 12, .inl k)), (bt, .inl (g.2 0, 8, .inl t))] ++ (CW g ad q)) (x_rS (As := [.int (hh >>> (9 &&& 31)), .int 4901]) X (c_L_lowj l g (hh >>> (9 &&& 31)) 4901 j_4 (by decide) ej_4 _) yf_L_low ys_L_low wM_L_33 ⟨Nat.le_of_ble_eq_true rfl, Nat.le_of_ble_eq_true rfl⟩ hP hD (p_none _) hl rfl rfl (Nat.le_of_ble_eq_true rfl) dL_law_826 ⟨show cl ≤ 600000 from by omega, show sl ≤ 7302250 from by omega⟩) hP hD hS hA (p_none _) (p_noneB _) (fun H locs hP hD hS => ?_)
        refine lv_iadd hx hb dL_law_829 ?_
        have ew9 : j_1 = 2 := by
          have z0 : j_1 ≠ 0 := fun z => c_1 (by rw [z]; rfl)
          have z1 : j_1 ≠ 1 := fun z => c_2 (by rw [z]; rfl)
          omega
        have G9 := l_set h hj_1 (v := (100 + (nI j_4))) (by rw [ew9, show loS (nI 2) = nI 100 from by decide, show hiS (nI 2) = nI 5000 from by decide, show (100 + (nI j_4)) = nI (100 + j_4) from (z_add rfl rfl)]; exact isw_no (by omega) (by omega) (by decide))
        refine lv_istore (lv' := [(18, .int (100 + (nI j_4))), (17, .int (nI j_1)), (8, .int 1), (7, .int (nI fi)), (6, .int hh), (5, .int (nI ei)), (1, .ref (ad 8 0)), (2, .ref bf), (3, .ref bk), (4, .ref bt), (0, .ref b)]) hx hb dL_law_830 hl (by decide) rfl (fun ls hl => ?_)
        refine lv_aload_n hx hb dL_law_832 rfl (lv_at hl 6 rfl) ?_
        refine lv_iload hx hb dL_law_833 (lv_at hl 1 rfl) ?_
        refine lv_iload hx hb dL_law_835 (lv_at hl 0 rfl) ?_
        refine x_goI (wn := [(bf, .inl (g.2 0, 28, .inl f)), (bk, .inl (g.2 0, 12, .inl k)), (bt, .inl (g.2 0, 8, .inl t))] ++ (CW g ad ((kSet q (nI j_1) (100 + (nI j_4))).2))) (x_rVS (As := [.int (nI j_1), .int (100 + (nI j_4))]) X hZ (c_X5_set l g tt ad q (nI j_1) (100 + (nI j_4)) h.b hq _) yf_X5_set yi_X5_set wM_L_87 ⟨Nat.le_of_ble_eq_true rfl, Nat.le_of_ble_eq_true rfl⟩ hP hD hS hA List.perm_append_comm 0 rfl rfl hl rfl rfl (Nat.le_of_ble_eq_true rfl) dL_law_837 ⟨show cl ≤ 600000 from by omega, show sl ≤ 7302250 from by omega⟩) hP hD hS hA List.perm_append_comm (List.Perm.refl _) (fun H locs hP hD hS => ?_)
        refine lv_aload hx hb dL_law_840 (lv_at hl 9 rfl) ?_
        refine lv_iconst (v := 1) hx hb dL_law_842 (by decide) ?_
        refine lv_iload hx hb dL_law_843 (lv_at hl 1 rfl) ?_
        refine lv_iadd hx hb dL_law_845 ?_
        refine x_iald (v := (t (1 + j_1))) X 2 (1 + j_1) hP rfl (z_add rfl rfl) (by omega) (Nat.le_of_ble_eq_true rfl) rfl dL_law_846 ?_
        refine lv_icmp_ne (tgt := 854) hx hb dL_law_847 (by decide) (fun q9 => absurd (show ((kSet q (nI j_1) (100 + (nI j_4))).1) = (t (1 + j_1)) from G9.1) q9) (fun c_5 => ?_)
        refine lv_iconst (v := 1) hx hb dL_law_850 (by decide) ?_
        refine lv_goto (tgt := 855) hx hb dL_law_851 (by decide) ?_
        refine lv_istore (lv' := [(8, .int 1), (18, .int (100 + (nI j_4))), (17, .int (nI j_1)), (7, .int (nI fi)), (6, .int hh), (5, .int (nI ei)), (1, .ref (ad 8 0)), (2, .ref bf), (3, .ref bk), (4, .ref bt), (0, .ref b)]) hx hb dL_law_855 hl (by decide) rfl (fun ls hl => ?_)
        refine lv_aload hx hb dL_law_857 (lv_at hl 9 rfl) ?_
        refine lv_iconst (v := 1) hx hb dL_law_859 (by decide) ?_
        refine lv_iload hx hb dL_law_860 (lv_at hl 2 rfl) ?_
        refine lv_iadd hx hb dL_law_862 ?_
        refine lv_iload hx hb dL_law_863 (lv_at hl 1 rfl) ?_
        refine x_iast (ws2 := [(bf, .inl (g.2 0, 28, .inl f)), (bk, .inl (g.2 0, 12, .inl k)), (bt, .inl (g.2 0, 8, .inl (upd t (1 + j_1) (100 + (nI j_4)))))] ++ (CW g ad ((kSet q (nI j_1) (100 + (nI j_4))).2))) X 2 (1 + j_1) hP hD hS rfl (z_add rfl rfl) (by omega) (Nat.le_of_ble_eq_true rfl) rfl dL_law_865 (fun H locs hP hD hS => ?_)
        refine lv_goto (tgt := 950) hx hb dL_law_866 (by decide) ?_
        exact nx _ _ _ _ _ _ _ _ G9.2.1 G9.2.2 (Nat.le_add_right _ _) ls _ _ hP hD hS (lv_sub hl [0, 5, 6, 7, 8, 9, 10] rfl)
    · refine lv_iload hx hb dL_law_785 (lv_at hl 3 rfl) ?_
      refine lv_bipush (v := 9) hx hb dL_law_787 (by decide) ?_
      refine lv_ishr hx hb dL_law_789 ?_
      refine lv_bipush (v := 61) hx hb dL_law_790 (by decide) ?_
      obtain ⟨j_5, hj_5, ej_5⟩ : ∃ j, j < 61 ∧ lowF (hh >>> (9 &&& 31)) 61 = nI j := low_n (hh >>> (9 &&& 31)) (n := 61) (by decide) (by decide)
      refine x_goI (wn := [(bf, .inl (g.2 0, 28, .inl f)), (bk, .inl (g.2 0, 12, .inl k)), (bt, .inl (g.2 0, 8, .inl t))] ++ (CW g ad q)) (x_rS (As := [.int (hh >>> (9 &&& 31)), .int 61]) X (c_L_lowj l g (hh >>> (9 &&& 31)) 61 j_5 (by decide) ej_5 _) yf_L_low ys_L_low wM_L_33 ⟨Nat.le_of_ble_eq_true rfl, Nat.le_of_ble_eq_true rfl⟩ hP hD (p_none _) hl rfl rfl (Nat.le_of_ble_eq_true rfl) dL_law_792 ⟨show cl ≤ 600000 from by omega, show sl ≤ 7302250 from by omega⟩) hP hD hS hA (p_none _) (p_noneB _) (fun H locs hP hD hS => ?_)
      refine lv_goto (tgt := 830) hx hb dL_law_795 (by decide) ?_
      have ew9 : j_1 = 1 := (nI_eq (b := 1) (by omega) (by decide)).mp c_2
      have G9 := l_set h hj_1 (v := (nI j_5)) (by rw [ew9, show loS (nI 1) = nI 0 from by decide, show hiS (nI 1) = nI 60 from by decide, show (nI j_5) = nI j_5 from rfl]; exact isw_no (by omega) (by omega) (by decide))
      refine lv_istore (lv' := [(18, .int (nI j_5)), (17, .int (nI j_1)), (8, .int 1), (7, .int (nI fi)), (6, .int hh), (5, .int (nI ei)), (1, .ref (ad 8 0)), (2, .ref bf), (3, .ref bk), (4, .ref bt), (0, .ref b)]) hx hb dL_law_830 hl (by decide) rfl (fun ls hl => ?_)
      refine lv_aload_n hx hb dL_law_832 rfl (lv_at hl 6 rfl) ?_
      refine lv_iload hx hb dL_law_833 (lv_at hl 1 rfl) ?_
      refine lv_iload hx hb dL_law_835 (lv_at hl 0 rfl) ?_
      refine x_goI (wn := [(bf, .inl (g.2 0, 28, .inl f)), (bk, .inl (g.2 0, 12, .inl k)), (bt, .inl (g.2 0, 8, .inl t))] ++ (CW g ad ((kSet q (nI j_1) (nI j_5)).2))) (x_rVS (As := [.int (nI j_1), .int (nI j_5)]) X hZ (c_X5_set l g tt ad q (nI j_1) (nI j_5) h.b hq _) yf_X5_set yi_X5_set wM_L_87 ⟨Nat.le_of_ble_eq_true rfl, Nat.le_of_ble_eq_true rfl⟩ hP hD hS hA List.perm_append_comm 0 rfl rfl hl rfl rfl (Nat.le_of_ble_eq_true rfl) dL_law_837 ⟨show cl ≤ 600000 from by omega, show sl ≤ 7302250 from by omega⟩) hP hD hS hA List.perm_append_comm (List.Perm.refl _) (fun H locs hP hD hS => ?_)
      refine lv_aload hx hb dL_law_840 (lv_at hl 9 rfl) ?_
      refine lv_iconst (v := 1) hx hb dL_law_842 (by decide) ?_
      refine lv_iload hx hb dL_law_843 (lv_at hl 1 rfl) ?_
      refine lv_iadd hx hb dL_law_845 ?_
      refine x_iald (v := (t (1 + j_1))) X 2 (1 + j_1) hP rfl (z_add rfl rfl) (by omega) (Nat.le_of_ble_eq_true rfl) rfl dL_law_846 ?_
      refine lv_icmp_ne (tgt := 854) hx hb dL_law_847 (by decide) (fun q9 => absurd (show ((kSet q (nI j_1) (nI j_5)).1) = (t (1 + j_1)) from G9.1) q9) (fun c_6 => ?_)
      refine lv_iconst (v := 1) hx hb dL_law_850 (by decide) ?_
      refine lv_goto (tgt := 855) hx hb dL_law_851 (by decide) ?_
      refine lv_istore (lv' := [(8, .int 1), (18, .int (nI j_5)), (17, .int (nI j_1)), (7, .int (nI fi)), (6, .int hh), (5, .int (nI ei)), (1, .ref (ad 8 0)), (2, .ref bf), (3, .ref bk), (4, .ref bt), (0, .ref b)]) hx hb dL_law_855 hl (by decide) rfl (fun ls hl => ?_)
      refine lv_aload hx hb dL_law_857 (lv_at hl 9 rfl) ?_
      refine lv_iconst (v := 1) hx hb dL_law_859 (by decide) ?_
      refine lv_iload hx hb dL_law_860 (lv_at hl 2 rfl) ?_
      refine lv_iadd hx hb dL_law_862 ?_
      refine lv_iload hx hb dL_law_863 (lv_at hl 1 rfl) ?_
      refine x_iast (ws2 := [(bf, .inl (g.2 0, 28, .inl f)), (bk, .inl (g.2 0, 12, .inl k)), (bt, .inl (g.2 0, 8, .inl (upd t (1 + j_1) (nI j_5))))] ++ (CW g ad ((kSet q (nI j_1) (nI j_5)).2))) X 2 (1 + j_1) hP hD hS rfl (z_add rfl rfl) (by omega) (Nat.le_of_ble_eq_true rfl) rfl dL_law_865 (fun H locs hP hD hS => ?_)
      refine lv_goto (tgt := 950) hx hb dL_law_866 (by decide) ?_
      exact nx _ _ _ _ _ _ _ _ G9.2.1 G9.2.2 (Nat.le_add_right _ _) ls _ _ hP hD hS (lv_sub hl [0, 5, 6, 7, 8, 9, 10] rfl)
  · refine lv_iconst (v := 1) hx hb dL_law_764 (by decide) ?_
    refine lv_iload hx hb dL_law_765 (lv_at hl 3 rfl) ?_
    refine lv_bipush (v := 9) hx hb dL_law_767 (by decide) ?_
    refine lv_ishr hx hb dL_law_769 ?_
    refine lv_bipush (v := 9) hx hb dL_law_770 (by decide) ?_
    obtain ⟨j_6, hj_6, ej_6⟩ : ∃ j, j < 9 ∧ lowF (hh >>> (9 &&& 31)) 9 = nI j := low_n (hh >>> (9 &&& 31)) (n := 9) (by decide) (by decide)
    refine x_goI (wn := [(bf, .inl (g.2 0, 28, .inl f)), (bk, .inl (g.2 0, 12, .inl k)), (bt, .inl (g.2 0, 8, .inl t))] ++ (CW g ad q)) (x_rS (As := [.int (hh >>> (9 &&& 31)), .int 9]) X (c_L_lowj l g (hh >>> (9 &&& 31)) 9 j_6 (by decide) ej_6 _) yf_L_low ys_L_low wM_L_33 ⟨Nat.le_of_ble_eq_true rfl, Nat.le_of_ble_eq_true rfl⟩ hP hD (p_none _) hl rfl rfl (Nat.le_of_ble_eq_true rfl) dL_law_772 ⟨show cl ≤ 600000 from by omega, show sl ≤ 7302250 from by omega⟩) hP hD hS hA (p_none _) (p_noneB _) (fun H locs hP hD hS => ?_)
    refine lv_iadd hx hb dL_law_775 ?_
    refine lv_goto (tgt := 830) hx hb dL_law_776 (by decide) ?_
    have ew9 : j_1 = 0 := (nI_eq (b := 0) (by omega) (by decide)).mp c_1
    have G9 := l_set h hj_1 (v := (1 + (nI j_6))) (by rw [ew9, show loS (nI 0) = nI 1 from by decide, show hiS (nI 0) = nI 9 from by decide, show (1 + (nI j_6)) = nI (1 + j_6) from (z_add rfl rfl)]; exact isw_no (by omega) (by omega) (by decide))
    refine lv_istore (lv' := [(18, .int (1 + (nI j_6))), (17, .int (nI j_1)), (8, .int 1), (7, .int (nI fi)), (6, .int hh), (5, .int (nI ei)), (1, .ref (ad 8 0)), (2, .ref bf), (3, .ref bk), (4, .ref bt), (0, .ref b)]) hx hb dL_law_830 hl (by decide) rfl (fun ls hl => ?_)
    refine lv_aload_n hx hb dL_law_832 rfl (lv_at hl 6 rfl) ?_
    refine lv_iload hx hb dL_law_833 (lv_at hl 1 rfl) ?_
    refine lv_iload hx hb dL_law_835 (lv_at hl 0 rfl) ?_
    refine x_goI (wn := [(bf, .inl (g.2 0, 28, .inl f)), (bk, .inl (g.2 0, 12, .inl k)), (bt, .inl (g.2 0, 8, .inl t))] ++ (CW g ad ((kSet q (nI j_1) (1 + (nI j_6))).2))) (x_rVS (As := [.int (nI j_1), .int (1 + (nI j_6))]) X hZ (c_X5_set l g tt ad q (nI j_1) (1 + (nI j_6)) h.b hq _) yf_X5_set yi_X5_set wM_L_87 ⟨Nat.le_of_ble_eq_true rfl, Nat.le_of_ble_eq_true rfl⟩ hP hD hS hA List.perm_append_comm 0 rfl rfl hl rfl rfl (Nat.le_of_ble_eq_true rfl) dL_law_837 ⟨show cl ≤ 600000 from by omega, show sl ≤ 7302250 from by omega⟩) hP hD hS hA List.perm_append_comm (List.Perm.refl _) (fun H locs hP hD hS => ?_)
    refine lv_aload hx hb dL_law_840 (lv_at hl 9 rfl) ?_
    refine lv_iconst (v := 1) hx hb dL_law_842 (by decide) ?_
    refine lv_iload hx hb dL_law_843 (lv_at hl 1 rfl) ?_
    refine lv_iadd hx hb dL_law_845 ?_
    refine x_iald (v := (t (1 + j_1))) X 2 (1 + j_1) hP rfl (z_add rfl rfl) (by omega) (Nat.le_of_ble_eq_true rfl) rfl dL_law_846 ?_
    refine lv_icmp_ne (tgt := 854) hx hb dL_law_847 (by decide) (fun q9 => absurd (show ((kSet q (nI j_1) (1 + (nI j_6))).1) = (t (1 + j_1)) from G9.1) q9) (fun c_7 => ?_)
    refine lv_iconst (v := 1) hx hb dL_law_850 (by decide) ?_
    refine lv_goto (tgt := 855) hx hb dL_law_851 (by decide) ?_
    refine lv_istore (lv' := [(8, .int 1), (18, .int (1 + (nI j_6))), (17, .int (nI j_1)), (7, .int (nI fi)), (6, .int hh), (5, .int (nI ei)), (1, .ref (ad 8 0)), (2, .ref bf), (3, .ref bk), (4, .ref bt), (0, .ref b)]) hx hb dL_law_855 hl (by decide) rfl (fun ls hl => ?_)
    refine lv_aload hx hb dL_law_857 (lv_at hl 9 rfl) ?_
    refine lv_iconst (v := 1) hx hb dL_law_859 (by decide) ?_
    refine lv_iload hx hb dL_law_860 (lv_at hl 2 rfl) ?_
    refine lv_iadd hx hb dL_law_862 ?_
    refine lv_iload hx hb dL_law_863 (lv_at hl 1 rfl) ?_
    refine x_iast (ws2 := [(bf, .inl (g.2 0, 28, .inl f)), (bk, .inl (g.2 0, 12, .inl k)), (bt, .inl (g.2 0, 8, .inl (upd t (1 + j_1) (1 + (nI j_6)))))] ++ (CW g ad ((kSet q (nI j_1) (1 + (nI j_6))).2))) X 2 (1 + j_1) hP hD hS rfl (z_add rfl rfl) (by omega) (Nat.le_of_ble_eq_true rfl) rfl dL_law_865 (fun H locs hP hD hS => ?_)
    refine lv_goto (tgt := 950) hx hb dL_law_866 (by decide) ?_
    exact nx _ _ _ _ _ _ _ _ G9.2.1 G9.2.2 (Nat.le_add_right _ _) ls _ _ hP hD hS (lv_sub hl [0, 5, 6, 7, 8, 9, 10] rfl)

set_option maxHeartbeats 4000000 in
set_option maxRecDepth 100000 in
theorem lw_c9 {p : Program} {l : Launch} {e : Env} {s : State} {m : MethodId} {below : List Frame} {meth : Method} {c : Code} {g : wG} {tt : Nat → Nat} {b L : Nat} {xs : Nat → Int32} {A : Nat → Prop} {ad : Nat → Nat → Nat} {bf bk bt cl sl : Nat} (Z : LwX p s m c g tt b L xs A) (hcl : cl + 10 ≤ 600000) (hsl : sl + 180 ≤ 7302250) {tm cn : Nat} {q : CS} {t f k : RI} {S R : Nat → Nat} (h : RQx tm cn q t f k S R) (hq : cL q < 5) (ht9 : tm + 800 ≤ 999999) {ei fi : Nat} {hh : Int32} (hfi : fi < 4) (nx : ∀ (tm' cn' : Nat) (q' : CS) (t' f' k' : RI) (S' R' : Nat → Nat), RQx tm' cn' q' t' f' k' S' R' → cL q' < 5 → tm' ≤ tm + 800 → LwG p l e s m below meth c g b A [(8, .int 1), (5, .int (nI ei)), (1, .ref (ad 8 0)), (2, .ref bf), (3, .ref bk), (4, .ref bt), (0, .ref b)] 950 cl sl (LW g bf bk bt f' k' t' ++ CW g ad q')) : LwG p l e s m below meth c g b A [(8, .int 1), (7, .int (nI fi)), (6, .int hh), (5, .int (nI ei)), (1, .ref (ad 8 0)), (2, .ref bf), (3, .ref bk), (4, .ref bt), (0, .ref b)] 869 cl sl (LW g bf bk bt f k t ++ CW g ad q) := by
  obtain ⟨X, hZ, hT, hL, hA⟩ := Z
  obtain ⟨⟨hx, hb, hml, hown, hts⟩, hK, hN⟩ := id X
  have hc6 := h.cn6
  intro ls H locs hP hD hS hl
  have hP : va_P g.1 vwCl ([(bf, .inl (g.2 0, 28, .inl f)), (bk, .inl (g.2 0, 12, .inl k)), (bt, .inl (g.2 0, 8, .inl t))] ++ (CW g ad q)) H := hP
  have hD : va_D A ([(bf, .inl (g.2 0, 28, .inl f)), (bk, .inl (g.2 0, 12, .inl k)), (bt, .inl (g.2 0, 8, .inl t))] ++ (CW g ad q)) := hD
  refine lv_iconst (v := 1) hx hb dL_law_869 (by decide) ?_
  refine lv_iload hx hb dL_law_870 (lv_at hl 2 rfl) ?_
  refine lv_bipush (v := 7) hx hb dL_law_872 (by decide) ?_
  refine lv_ishr hx hb dL_law_874 ?_
  refine lv_iload hx hb dL_law_875 (lv_at hl 2 rfl) ?_
  refine lv_bipush (v := 25) hx hb dL_law_877 (by decide) ?_
  refine lv_ishr hx hb dL_law_879 ?_
  refine lv_iconst (v := 3) hx hb dL_law_880 (by decide) ?_
  obtain ⟨j_1, hj_1, ej_1⟩ : ∃ j, j < 3 ∧ lowF (hh >>> (25 &&& 31)) 3 = nI j := low_n (hh >>> (25 &&& 31)) (n := 3) (by decide) (by decide)
  refine x_goI (wn := [(bf, .inl (g.2 0, 28, .inl f)), (bk, .inl (g.2 0, 12, .inl k)), (bt, .inl (g.2 0, 8, .inl t))] ++ (CW g ad q)) (x_rS (As := [.int (hh >>> (25 &&& 31)), .int 3]) X (c_L_lowj l g (hh >>> (25 &&& 31)) 3 j_1 (by decide) ej_1 _) yf_L_low ys_L_low wM_L_33 ⟨Nat.le_of_ble_eq_true rfl, Nat.le_of_ble_eq_true rfl⟩ hP hD (p_none _) hl rfl rfl (Nat.le_of_ble_eq_true rfl) dL_law_881 ⟨show cl ≤ 600000 from by omega, show sl ≤ 7302250 from by omega⟩) hP hD hS hA (p_none _) (p_noneB _) (fun H locs hP hD hS => ?_)
  refine lv_if_ne (tgt := 893) hx hb dL_law_884 (by decide) (fun (c_1 : ¬ (nI j_1) = 0) => ?_) (fun (c_1 : (nI j_1) = 0) => ?_)
  · refine lv_bipush (v := 90) hx hb dL_law_893 (by decide) ?_
    obtain ⟨j_2, hj_2, ej_2⟩ : ∃ j, j < 90 ∧ lowF (hh >>> (7 &&& 31)) 90 = nI j := low_n (hh >>> (7 &&& 31)) (n := 90) (by decide) (by decide)
    refine x_goI (wn := [(bf, .inl (g.2 0, 28, .inl f)), (bk, .inl (g.2 0, 12, .inl k)), (bt, .inl (g.2 0, 8, .inl t))] ++ (CW g ad q)) (x_rS (As := [.int (hh >>> (7 &&& 31)), .int 90]) X (c_L_lowj l g (hh >>> (7 &&& 31)) 90 j_2 (by decide) ej_2 _) yf_L_low ys_L_low wM_L_33 ⟨Nat.le_of_ble_eq_true rfl, Nat.le_of_ble_eq_true rfl⟩ hP hD (p_none _) hl rfl rfl (Nat.le_of_ble_eq_true rfl) dL_law_895 ⟨show cl ≤ 600000 from by omega, show sl ≤ 7302250 from by omega⟩) hP hD hS hA (p_none _) (p_noneB _) (fun H locs hP hD hS => ?_)
    refine lv_iadd hx hb dL_law_898 ?_
    obtain ⟨mn, hmn⟩ : ∃ mn, mn = 1 + j_2 := ⟨_, rfl⟩
    have hmn8 : mn ≤ 800 := by omega
    refine W.eq (g2 := F0 m 899 ls [.int (nI mn)]) (by rw [hmn, show 1 + nI j_2 = nI (1 + j_2) from z_add rfl rfl]) ?_
    refine lv_istore (lv' := [(19, .int (nI mn)), (8, .int 1), (7, .int (nI fi)), (6, .int hh), (5, .int (nI ei)), (1, .ref (ad 8 0)), (2, .ref bf), (3, .ref bk), (4, .ref bt), (0, .ref b)]) hx hb dL_law_899 hl (by decide) rfl (fun ls hl => ?_)
    refine lv_iconst (v := 0) hx hb dL_law_901 (by decide) ?_
    refine lv_istore (lv' := [(20, .int 0), (19, .int (nI mn)), (8, .int 1), (7, .int (nI fi)), (6, .int hh), (5, .int (nI ei)), (1, .ref (ad 8 0)), (2, .ref bf), (3, .ref bk), (4, .ref bt), (0, .ref b)]) hx hb dL_law_902 hl (by decide) rfl (fun ls hl => ?_)
    refine lv_iconst (v := 0) hx hb dL_law_904 (by decide) ?_
    refine lv_istore (lv' := [(21, .int 0), (20, .int 0), (19, .int (nI mn)), (8, .int 1), (7, .int (nI fi)), (6, .int hh), (5, .int (nI ei)), (1, .ref (ad 8 0)), (2, .ref bf), (3, .ref bk), (4, .ref bt), (0, .ref b)]) hx hb dL_law_905 hl (by decide) rfl (fun ls hl => ?_)
    suffices LP907 : ∀ (n : Nat) (mi : Nat) (y : Nat → Int32) (u : Nat → Int32) (xx : Nat → Int32) (u9 : Int32), mi + n = mn → RTx (tm + mi) cn xx (cT q 1) (cT q 2) (cT q 3) u y k S R → pmsC cn (cT q 1) (cT q 2) (cT q 3) n xx u9 = pmsC cn (cT q 1) (cT q 2) (cT q 3) mn (cT q 0) 0 → ∀ (ls : Array Slot) (H : Heap) (locs : List Loc), va_P g.1 vwCl ([(bf, .inl (g.2 0, 28, .inl y)), (bk, .inl (g.2 0, 12, .inl k)), (bt, .inl (g.2 0, 8, .inl u))] ++ (CW g ad q)) H → va_D A ([(bf, .inl (g.2 0, 28, .inl y)), (bk, .inl (g.2 0, 12, .inl k)), (bt, .inl (g.2 0, 8, .inl u))] ++ (CW g ad q)) → va_S A s.heap H locs → lv_has ls 22 [(21, .int (nI mi)), (20, .int u9), (19, .int (nI mn)), (8, .int 1), (5, .int (nI ei)), (1, .ref (ad 8 0)), (2, .ref bf), (3, .ref bk), (4, .ref bt), (0, .ref b)] → W p l e room_1 s m #[Value.ref b] below meth c H locs cl sl (lw_Z below #[Value.ref b] s) (F0 m 907 ls []) from LP907 mn 0 f t (cT q 0) 0 (Nat.zero_add _) h rfl ls _ _ hP hD hS (lv_sub hl [0, 1, 2, 3, 6, 7, 8, 9, 10, 11] rfl)
    intro n
    induction n with
    | zero =>
      intro mi y u xx u9 hmi hR hp ls H locs hP hD hS hl
      have emi : mi = mn := by omega
      rw [emi] at hR
      have G9 := l_pass h (show 1 ≤ mn from by omega) (by omega) (by omega) (show (xx, u9) = pmsC cn (cT q 1) (cT q 2) (cT q 3) mn (cT q 0) 0 from hp) hR
      refine lv_iload hx hb dL_law_907 (lv_at hl 0 rfl) ?_
      refine lv_iload hx hb dL_law_909 (lv_at hl 2 rfl) ?_
      refine lv_icmp_ge (tgt := 932) hx hb dL_law_911 (by decide) (fun c_2 => ?_) (fun q9 => absurd (show (nI mn) ≤ (nI mi) from (nI_le (by omega) (by omega))) (show ¬ ((nI mn) ≤ (nI mi)) from q9))
      refine lv_aload_n hx hb dL_law_932 rfl (lv_at hl 5 rfl) ?_
      refine lv_iload hx hb dL_law_933 (lv_at hl 2 rfl) ?_
      refine x_goI (wn := [(bf, .inl (g.2 0, 28, .inl y)), (bk, .inl (g.2 0, 12, .inl k)), (bt, .inl (g.2 0, 8, .inl u))] ++ (CW g ad ((kPass q cn (nI mn)).2))) (x_rV (As := [.int (nI mn)]) X (c_X5_pass l g ad q (nI mn) h.b hq cn h.cn6 h.x7 _) yf_X5_pass yi_X5_pass wM_L_93 ⟨Nat.le_of_ble_eq_true rfl, Nat.le_of_ble_eq_true rfl⟩ hP hD List.perm_append_comm 0 rfl rfl hl rfl rfl (Nat.le_of_ble_eq_true rfl) dL_law_935 ⟨show cl ≤ 600000 from by omega, show sl ≤ 7302250 from by omega⟩) hP hD hS hA List.perm_append_comm (List.Perm.refl _) (fun H locs hP hD hS => ?_)
      refine lv_iload hx hb dL_law_938 (lv_at hl 1 rfl) ?_
      refine lv_icmp_ne (tgt := 947) hx hb dL_law_940 (by decide) (fun q9 => absurd (show ((kPass q cn (nI mn)).1) = u9 from G9.1) q9) (fun c_3 => ?_)
      refine lv_iconst (v := 1) hx hb dL_law_943 (by decide) ?_
      refine lv_goto (tgt := 948) hx hb dL_law_944 (by decide) ?_
      refine lv_istore (lv' := [(8, .int 1), (21, .int (nI mi)), (20, .int u9), (19, .int (nI mn)), (5, .int (nI ei)), (1, .ref (ad 8 0)), (2, .ref bf), (3, .ref bk), (4, .ref bt), (0, .ref b)]) hx hb dL_law_948 hl (by decide) rfl (fun ls hl => ?_)
      exact nx _ _ _ _ _ _ _ _ G9.2.1 G9.2.2 (by omega) ls _ _ hP hD hS (lv_sub hl [0, 4, 5, 6, 7, 8, 9] rfl)
    | succ n ih =>
      intro mi y u xx u9 hmi hR hp ls H locs hP hD hS hl
      refine lv_iload hx hb dL_law_907 (lv_at hl 0 rfl) ?_
      refine lv_iload hx hb dL_law_909 (lv_at hl 2 rfl) ?_
      refine lv_icmp_ge (tgt := 932) hx hb dL_law_911 (by decide) (fun q9 => absurd q9 (show ¬ (nI mn) ≤ (nI mi) from (nI_ge (by omega) (by omega)))) (fun c_4 => ?_)
      refine lv_iload hx hb dL_law_914 (lv_at hl 1 rfl) ?_
      refine lv_aload_n hx hb dL_law_916 rfl (lv_at hl 6 rfl) ?_
      refine lv_aload_n hx hb dL_law_917 rfl (lv_at hl 7 rfl) ?_
      refine lv_aload hx hb dL_law_918 (lv_at hl 8 rfl) ?_
      obtain ⟨w9, hn9, hR2, hu2⟩ := hR.min (by omega)
      refine x_goI (wn := [(bf, .inl (g.2 0, 28, .inl (lmF y k u w9))), (bk, .inl (g.2 0, 12, .inl k)), (bt, .inl (g.2 0, 8, .inl (lmT y k u w9)))] ++ (CW g ad q)) (x_rS (As := [.ref bf, .ref bk, .ref bt]) X (c_L_minute l g bf bk bt cn w9 y k u hn9 _) yf_L_minute ys_L_minute wM_L_90 ⟨Nat.le_of_ble_eq_true rfl, Nat.le_of_ble_eq_true rfl⟩ hP hD (List.Perm.refl _) hl rfl rfl (Nat.le_of_ble_eq_true rfl) dL_law_920 ⟨show cl ≤ 600000 from by omega, show sl ≤ 7302250 from by omega⟩) hP hD hS hA (List.Perm.refl _) List.perm_append_comm (fun H locs hP hD hS => ?_)
      refine lv_iadd hx hb dL_law_923 ?_
      refine lv_istore (lv' := [(20, .int (u9 + (lmR y u))), (21, .int (nI mi)), (19, .int (nI mn)), (8, .int 1), (5, .int (nI ei)), (1, .ref (ad 8 0)), (2, .ref bf), (3, .ref bk), (4, .ref bt), (0, .ref b)]) hx hb dL_law_924 hl (by decide) rfl (fun ls hl => ?_)
      refine lv_iinc (v := (nI (mi + 1))) (lv' := [(21, .int (nI (mi + 1))), (20, .int (u9 + (lmR y u))), (19, .int (nI mn)), (8, .int 1), (5, .int (nI ei)), (1, .ref (ad 8 0)), (2, .ref bf), (3, .ref bk), (4, .ref bt), (0, .ref b)]) hx hb dL_law_926 hl (k := 1) rfl (nI_add _ 1) (by decide) rfl (fun ls hl => ?_)
      refine lv_goto (tgt := 907) hx hb dL_law_929 (by decide) ?_
      exact ih (mi + 1) (lmF y k u w9) (lmT y k u w9) (minZ cn xx (cT q 1) (cT q 2) (cT q 3)) (u9 + (lmR y u)) (by omega) hR2 (by rw [← hp, ← hu2]; rfl) ls _ _ hP hD hS (lv_sub hl [0, 1, 2, 3, 4, 5, 6, 7, 8, 9] rfl)
  · refine lv_sipush (v := 800) hx hb dL_law_887 (by decide) ?_
    refine lv_goto (tgt := 895) hx hb dL_law_890 (by decide) ?_
    obtain ⟨j_3, hj_3, ej_3⟩ : ∃ j, j < 800 ∧ lowF (hh >>> (7 &&& 31)) 800 = nI j := low_n (hh >>> (7 &&& 31)) (n := 800) (by decide) (by decide)
    refine x_goI (wn := [(bf, .inl (g.2 0, 28, .inl f)), (bk, .inl (g.2 0, 12, .inl k)), (bt, .inl (g.2 0, 8, .inl t))] ++ (CW g ad q)) (x_rS (As := [.int (hh >>> (7 &&& 31)), .int 800]) X (c_L_lowj l g (hh >>> (7 &&& 31)) 800 j_3 (by decide) ej_3 _) yf_L_low ys_L_low wM_L_33 ⟨Nat.le_of_ble_eq_true rfl, Nat.le_of_ble_eq_true rfl⟩ hP hD (p_none _) hl rfl rfl (Nat.le_of_ble_eq_true rfl) dL_law_895 ⟨show cl ≤ 600000 from by omega, show sl ≤ 7302250 from by omega⟩) hP hD hS hA (p_none _) (p_noneB _) (fun H locs hP hD hS => ?_)
    refine lv_iadd hx hb dL_law_898 ?_
    obtain ⟨mn, hmn⟩ : ∃ mn, mn = 1 + j_3 := ⟨_, rfl⟩
    have hmn8 : mn ≤ 800 := by omega
    refine W.eq (g2 := F0 m 899 ls [.int (nI mn)]) (by rw [hmn, show 1 + nI j_3 = nI (1 + j_3) from z_add rfl rfl]) ?_
    refine lv_istore (lv' := [(19, .int (nI mn)), (8, .int 1), (7, .int (nI fi)), (6, .int hh), (5, .int (nI ei)), (1, .ref (ad 8 0)), (2, .ref bf), (3, .ref bk), (4, .ref bt), (0, .ref b)]) hx hb dL_law_899 hl (by decide) rfl (fun ls hl => ?_)
    refine lv_iconst (v := 0) hx hb dL_law_901 (by decide) ?_
    refine lv_istore (lv' := [(20, .int 0), (19, .int (nI mn)), (8, .int 1), (7, .int (nI fi)), (6, .int hh), (5, .int (nI ei)), (1, .ref (ad 8 0)), (2, .ref bf), (3, .ref bk), (4, .ref bt), (0, .ref b)]) hx hb dL_law_902 hl (by decide) rfl (fun ls hl => ?_)
    refine lv_iconst (v := 0) hx hb dL_law_904 (by decide) ?_
    refine lv_istore (lv' := [(21, .int 0), (20, .int 0), (19, .int (nI mn)), (8, .int 1), (7, .int (nI fi)), (6, .int hh), (5, .int (nI ei)), (1, .ref (ad 8 0)), (2, .ref bf), (3, .ref bk), (4, .ref bt), (0, .ref b)]) hx hb dL_law_905 hl (by decide) rfl (fun ls hl => ?_)
    suffices LP907 : ∀ (n : Nat) (mi : Nat) (y : Nat → Int32) (u : Nat → Int32) (xx : Nat → Int32) (u9 : Int32), mi + n = mn → RTx (tm + mi) cn xx (cT q 1) (cT q 2) (cT q 3) u y k S R → pmsC cn (cT q 1) (cT q 2) (cT q 3) n xx u9 = pmsC cn (cT q 1) (cT q 2) (cT q 3) mn (cT q 0) 0 → ∀ (ls : Array Slot) (H : Heap) (locs : List Loc), va_P g.1 vwCl ([(bf, .inl (g.2 0, 28, .inl y)), (bk, .inl (g.2 0, 12, .inl k)), (bt, .inl (g.2 0, 8, .inl u))] ++ (CW g ad q)) H → va_D A ([(bf, .inl (g.2 0, 28, .inl y)), (bk, .inl (g.2 0, 12, .inl k)), (bt, .inl (g.2 0, 8, .inl u))] ++ (CW g ad q)) → va_S A s.heap H locs → lv_has ls 22 [(21, .int (nI mi)), (20, .int u9), (19, .int (nI mn)), (8, .int 1), (5, .int (nI ei)), (1, .ref (ad 8 0)), (2, .ref bf), (3, .ref bk), (4, .ref bt), (0, .ref b)] → W p l e room_1 s m #[Value.ref b] below meth c H locs cl sl (lw_Z below #[Value.ref b] s) (F0 m 907 ls []) from LP907 mn 0 f t (cT q 0) 0 (Nat.zero_add _) h rfl ls _ _ hP hD hS (lv_sub hl [0, 1, 2, 3, 6, 7, 8, 9, 10, 11] rfl)
    intro n
    induction n with
    | zero =>
      intro mi y u xx u9 hmi hR hp ls H locs hP hD hS hl
      have emi : mi = mn := by omega
      rw [emi] at hR
      have G9 := l_pass h (show 1 ≤ mn from by omega) (by omega) (by omega) (show (xx, u9) = pmsC cn (cT q 1) (cT q 2) (cT q 3) mn (cT q 0) 0 from hp) hR
      refine lv_iload hx hb dL_law_907 (lv_at hl 0 rfl) ?_
      refine lv_iload hx hb dL_law_909 (lv_at hl 2 rfl) ?_
      refine lv_icmp_ge (tgt := 932) hx hb dL_law_911 (by decide) (fun c_5 => ?_) (fun q9 => absurd (show (nI mn) ≤ (nI mi) from (nI_le (by omega) (by omega))) (show ¬ ((nI mn) ≤ (nI mi)) from q9))
      refine lv_aload_n hx hb dL_law_932 rfl (lv_at hl 5 rfl) ?_
      refine lv_iload hx hb dL_law_933 (lv_at hl 2 rfl) ?_
      refine x_goI (wn := [(bf, .inl (g.2 0, 28, .inl y)), (bk, .inl (g.2 0, 12, .inl k)), (bt, .inl (g.2 0, 8, .inl u))] ++ (CW g ad ((kPass q cn (nI mn)).2))) (x_rV (As := [.int (nI mn)]) X (c_X5_pass l g ad q (nI mn) h.b hq cn h.cn6 h.x7 _) yf_X5_pass yi_X5_pass wM_L_93 ⟨Nat.le_of_ble_eq_true rfl, Nat.le_of_ble_eq_true rfl⟩ hP hD List.perm_append_comm 0 rfl rfl hl rfl rfl (Nat.le_of_ble_eq_true rfl) dL_law_935 ⟨show cl ≤ 600000 from by omega, show sl ≤ 7302250 from by omega⟩) hP hD hS hA List.perm_append_comm (List.Perm.refl _) (fun H locs hP hD hS => ?_)
      refine lv_iload hx hb dL_law_938 (lv_at hl 1 rfl) ?_
      refine lv_icmp_ne (tgt := 947) hx hb dL_law_940 (by decide) (fun q9 => absurd (show ((kPass q cn (nI mn)).1) = u9 from G9.1) q9) (fun c_6 => ?_)
      refine lv_iconst (v := 1) hx hb dL_law_943 (by decide) ?_
      refine lv_goto (tgt := 948) hx hb dL_law_944 (by decide) ?_
      refine lv_istore (lv' := [(8, .int 1), (21, .int (nI mi)), (20, .int u9), (19, .int (nI mn)), (5, .int (nI ei)), (1, .ref (ad 8 0)), (2, .ref bf), (3, .ref bk), (4, .ref bt), (0, .ref b)]) hx hb dL_law_948 hl (by decide) rfl (fun ls hl => ?_)
      exact nx _ _ _ _ _ _ _ _ G9.2.1 G9.2.2 (by omega) ls _ _ hP hD hS (lv_sub hl [0, 4, 5, 6, 7, 8, 9] rfl)
    | succ n ih =>
      intro mi y u xx u9 hmi hR hp ls H locs hP hD hS hl
      refine lv_iload hx hb dL_law_907 (lv_at hl 0 rfl) ?_
      refine lv_iload hx hb dL_law_909 (lv_at hl 2 rfl) ?_
      refine lv_icmp_ge (tgt := 932) hx hb dL_law_911 (by decide) (fun q9 => absurd q9 (show ¬ (nI mn) ≤ (nI mi) from (nI_ge (by omega) (by omega)))) (fun c_7 => ?_)
      refine lv_iload hx hb dL_law_914 (lv_at hl 1 rfl) ?_
      refine lv_aload_n hx hb dL_law_916 rfl (lv_at hl 6 rfl) ?_
      refine lv_aload_n hx hb dL_law_917 rfl (lv_at hl 7 rfl) ?_
      refine lv_aload hx hb dL_law_918 (lv_at hl 8 rfl) ?_
      obtain ⟨w9, hn9, hR2, hu2⟩ := hR.min (by omega)
      refine x_goI (wn := [(bf, .inl (g.2 0, 28, .inl (lmF y k u w9))), (bk, .inl (g.2 0, 12, .inl k)), (bt, .inl (g.2 0, 8, .inl (lmT y k u w9)))] ++ (CW g ad q)) (x_rS (As := [.ref bf, .ref bk, .ref bt]) X (c_L_minute l g bf bk bt cn w9 y k u hn9 _) yf_L_minute ys_L_minute wM_L_90 ⟨Nat.le_of_ble_eq_true rfl, Nat.le_of_ble_eq_true rfl⟩ hP hD (List.Perm.refl _) hl rfl rfl (Nat.le_of_ble_eq_true rfl) dL_law_920 ⟨show cl ≤ 600000 from by omega, show sl ≤ 7302250 from by omega⟩) hP hD hS hA (List.Perm.refl _) List.perm_append_comm (fun H locs hP hD hS => ?_)
      refine lv_iadd hx hb dL_law_923 ?_
      refine lv_istore (lv' := [(20, .int (u9 + (lmR y u))), (21, .int (nI mi)), (19, .int (nI mn)), (8, .int 1), (5, .int (nI ei)), (1, .ref (ad 8 0)), (2, .ref bf), (3, .ref bk), (4, .ref bt), (0, .ref b)]) hx hb dL_law_924 hl (by decide) rfl (fun ls hl => ?_)
      refine lv_iinc (v := (nI (mi + 1))) (lv' := [(21, .int (nI (mi + 1))), (20, .int (u9 + (lmR y u))), (19, .int (nI mn)), (8, .int 1), (5, .int (nI ei)), (1, .ref (ad 8 0)), (2, .ref bf), (3, .ref bk), (4, .ref bt), (0, .ref b)]) hx hb dL_law_926 hl (k := 1) rfl (nI_add _ 1) (by decide) rfl (fun ls hl => ?_)
      refine lv_goto (tgt := 907) hx hb dL_law_929 (by decide) ?_
      exact ih (mi + 1) (lmF y k u w9) (lmT y k u w9) (minZ cn xx (cT q 1) (cT q 2) (cT q 3)) (u9 + (lmR y u)) (by omega) hR2 (by rw [← hp, ← hu2]; rfl) ls _ _ hP hD hS (lv_sub hl [0, 1, 2, 3, 4, 5, 6, 7, 8, 9] rfl)


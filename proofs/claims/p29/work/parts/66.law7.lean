set_option maxHeartbeats 4000000 in
set_option maxRecDepth 100000 in
/-- from a call's end to the next one's beginning -/
theorem lw_next {p : Program} {l : Launch} {e : Env} {s : State} {m : MethodId} {below : List Frame} {meth : Method} {c : Code} {g : wG} {tt : Nat → Nat} {b L : Nat} {xs : Nat → Int32} {A : Nat → Prop} {ad : Nat → Nat → Nat} {bf bk bt : Nat} (Z : LwX p s m c g tt b L xs A) {ei : Nat} (hei : ei < 36) (nx0 : ∀ (tm cn : Nat) (q : CS) (t f k : RI) (S R : Nat → Nat), RQx tm cn q t f k S R → cL q < 5 → tm ≤ 800 * (ei + 1) → LwG p l e s m below meth c g b A [(5, .int (nI (ei + 1))), (1, .ref (ad 8 0)), (2, .ref bf), (3, .ref bk), (4, .ref bt), (0, .ref b)] 80 (88 + 10 * (ei + 1)) (585 + 180 * (ei + 1)) (LW g bf bk bt f k t ++ CW g ad q)) : ∀ (tm cn : Nat) (q : CS) (t f k : RI) (S R : Nat → Nat), RQx tm cn q t f k S R → cL q < 5 → tm ≤ 800 * (ei + 1) → LwG p l e s m below meth c g b A [(8, .int 1), (5, .int (nI ei)), (1, .ref (ad 8 0)), (2, .ref bf), (3, .ref bk), (4, .ref bt), (0, .ref b)] 950 (88 + 10 * ei) (585 + 180 * ei) (LW g bf bk bt f k t ++ CW g ad q) := by
  intro tm cn q t f k S R h hq ht
  obtain ⟨nf, hnf⟩ : ∃ n : Nat, n = 3000 := ⟨3000, rfl⟩
  obtain ⟨n2, hn31, hn14, hn2⟩ : ∃ n : Nat, n < 2 ^ 31 ∧ nI n = 1440 ∧ n = 1440 := ⟨1440, by decide, rfl, rfl⟩
  refine lw_J Z (by omega) (by omega) h hq (by omega) hei (fun xv => ?_)
  refine lw_K Z (by omega) (by omega) h hq (by omega) hnf (fun q1 h1 hq1 => ?_)
  refine lw_B Z (by omega) (by omega) h1 hq1 (by omega) hn31 hn14 hn2 (fun q2 h2 hq2 => ?_)
  obtain ⟨X, hZ, hT, hL, hA⟩ := Z
  obtain ⟨⟨hx, hb, hml, hown, hts⟩, hK, hN⟩ := id X
  intro ls H locs hP hD hS hl
  refine lv_iinc (v := (nI (ei + 1))) (lv' := [(5, .int (nI (ei + 1))), (1, .ref (ad 8 0)), (2, .ref bf), (3, .ref bk), (4, .ref bt), (0, .ref b)]) hx hb dL_law_1403 hl (k := 0) rfl (nI_add _ 1) (by decide) rfl (fun ls hl => ?_)
  refine lv_goto (tgt := 80) hx hb dL_law_1406 (by decide) ?_
  refine W.widen (k := 88 + 10 * (ei + 1)) (n := 585 + 180 * (ei + 1)) (by omega) (by omega) ?_
  exact nx0 _ _ _ _ _ _ _ _ h2 hq2 ht ls _ _ hP hD hS hl
set_option maxHeartbeats 4000000 in
set_option maxRecDepth 100000 in
/-- one call of the loop -/
theorem lw_one {p : Program} {l : Launch} {e : Env} {s : State} {m : MethodId} {below : List Frame} {meth : Method} {c : Code} {g : wG} {tt : Nat → Nat} {b L : Nat} {xs : Nat → Int32} {A : Nat → Prop} {ad : Nat → Nat → Nat} {bf bk bt : Nat} (Z : LwX p s m c g tt b L xs A) {ei : Nat} (hei : ei < 36) (nx0 : ∀ (tm cn : Nat) (q : CS) (t f k : RI) (S R : Nat → Nat), RQx tm cn q t f k S R → cL q < 5 → tm ≤ 800 * (ei + 1) → LwG p l e s m below meth c g b A [(5, .int (nI (ei + 1))), (1, .ref (ad 8 0)), (2, .ref bf), (3, .ref bk), (4, .ref bt), (0, .ref b)] 80 (88 + 10 * (ei + 1)) (585 + 180 * (ei + 1)) (LW g bf bk bt f k t ++ CW g ad q)) : ∀ (tm cn : Nat) (q : CS) (t f k : RI) (S R : Nat → Nat), RQx tm cn q t f k S R → cL q < 5 → tm ≤ 800 * ei → LwG p l e s m below meth c g b A [(5, .int (nI ei)), (1, .ref (ad 8 0)), (2, .ref bf), (3, .ref bk), (4, .ref bt), (0, .ref b)] 80 (88 + 10 * ei) (585 + 180 * ei) (LW g bf bk bt f k t ++ CW g ad q) := by
  intro tm cn q t f k S R h hq ht
  obtain ⟨X, hZ, hT, hL, hA⟩ := id Z
  obtain ⟨⟨hx, hb, hml, hown, hts⟩, hK, hN⟩ := id X
  intro ls H locs hP hD hS hl
  have hP : va_P g.1 vwCl ([(bf, .inl (g.2 0, 28, .inl f)), (bk, .inl (g.2 0, 12, .inl k)), (bt, .inl (g.2 0, 8, .inl t))] ++ (CW g ad q)) H := hP
  have hD : va_D A ([(bf, .inl (g.2 0, 28, .inl f)), (bk, .inl (g.2 0, 12, .inl k)), (bt, .inl (g.2 0, 8, .inl t))] ++ (CW g ad q)) := hD
  refine lv_iload hx hb dL_law_80 (lv_at hl 0 rfl) ?_
  refine lv_bipush (v := 36) hx hb dL_law_82 (by decide) ?_
  refine lv_icmp_ge (tgt := 1409) hx hb dL_law_84 (by decide) (fun q9 => absurd q9 (show ¬ 36 ≤ (nI ei) from (nI_ge (b := 36) hei (by decide)))) (fun c_1 => ?_)
  refine lv_aload_n hx hb dL_law_87 rfl (lv_at hl 5 rfl) ?_
  refine lv_iload hx hb dL_law_88 (lv_at hl 0 rfl) ?_
  refine x_goI (wn := [(bf, .inl (g.2 0, 28, .inl f)), (bk, .inl (g.2 0, 12, .inl k)), (bt, .inl (g.2 0, 8, .inl t))] ++ (CW g ad q)) (x_rSX (As := [.ref b, .int (nI ei)]) X hT (c_L_cell l g b L xs (by omega) ei (by omega) _) yf_L_cell ys_L_cell wM_L_64 ⟨Nat.le_of_ble_eq_true rfl, Nat.le_of_ble_eq_true rfl⟩ hP hD hS hA hl rfl rfl (Nat.le_of_ble_eq_true rfl) dL_law_90 ⟨show 88 + 10 * ei ≤ 600000 from by omega, show 585 + 180 * ei ≤ 7302250 from by omega⟩) hP hD hS hA (p_none _) (p_noneB _) (fun H locs hP hD hS => ?_)
  refine lv_istore (lv' := [(6, .int (cellF L xs ei)), (5, .int (nI ei)), (1, .ref (ad 8 0)), (2, .ref bf), (3, .ref bk), (4, .ref bt), (0, .ref b)]) hx hb dL_law_93 hl (by decide) rfl (fun ls hl => ?_)
  refine lv_iload hx hb dL_law_95 (lv_at hl 0 rfl) ?_
  refine lv_iconst (v := 5) hx hb dL_law_97 (by decide) ?_
  refine lv_ishr hx hb dL_law_98 ?_
  refine lv_iconst (v := 4) hx hb dL_law_99 (by decide) ?_
  obtain ⟨j_1, hj_1, ej_1⟩ : ∃ j, j < 4 ∧ lowF ((cellF L xs ei) >>> (5 &&& 31)) 4 = nI j := low_n ((cellF L xs ei) >>> (5 &&& 31)) (n := 4) (by decide) (by decide)
  refine x_goI (wn := [(bf, .inl (g.2 0, 28, .inl f)), (bk, .inl (g.2 0, 12, .inl k)), (bt, .inl (g.2 0, 8, .inl t))] ++ (CW g ad q)) (x_rS (As := [.int ((cellF L xs ei) >>> (5 &&& 31)), .int 4]) X (c_L_lowj l g ((cellF L xs ei) >>> (5 &&& 31)) 4 j_1 (by decide) ej_1 _) yf_L_low ys_L_low wM_L_33 ⟨Nat.le_of_ble_eq_true rfl, Nat.le_of_ble_eq_true rfl⟩ hP hD (p_none _) hl rfl rfl (Nat.le_of_ble_eq_true rfl) dL_law_100 ⟨show 88 + 10 * ei ≤ 600000 from by omega, show 585 + 180 * ei ≤ 7302250 from by omega⟩) hP hD hS hA (p_none _) (p_noneB _) (fun H locs hP hD hS => ?_)
  refine lv_istore (lv' := [(7, .int (nI j_1)), (6, .int (cellF L xs ei)), (5, .int (nI ei)), (1, .ref (ad 8 0)), (2, .ref bf), (3, .ref bk), (4, .ref bt), (0, .ref b)]) hx hb dL_law_103 hl (by decide) rfl (fun ls hl => ?_)
  refine lv_iconst (v := 1) hx hb dL_law_105 (by decide) ?_
  refine lv_istore (lv' := [(8, .int 1), (7, .int (nI j_1)), (6, .int (cellF L xs ei)), (5, .int (nI ei)), (1, .ref (ad 8 0)), (2, .ref bf), (3, .ref bk), (4, .ref bt), (0, .ref b)]) hx hb dL_law_106 hl (by decide) rfl (fun ls hl => ?_)
  refine lv_iload hx hb dL_law_108 (lv_at hl 2 rfl) ?_
  refine lv_bipush (v := 14) hx hb dL_law_110 (by decide) ?_
  obtain ⟨j_2, hj_2, ej_2⟩ : ∃ j, j < 14 ∧ lowF (cellF L xs ei) 14 = nI j := low_n (cellF L xs ei) (n := 14) (by decide) (by decide)
  refine x_goI (wn := [(bf, .inl (g.2 0, 28, .inl f)), (bk, .inl (g.2 0, 12, .inl k)), (bt, .inl (g.2 0, 8, .inl t))] ++ (CW g ad q)) (x_rS (As := [.int (cellF L xs ei), .int 14]) X (c_L_lowj l g (cellF L xs ei) 14 j_2 (by decide) ej_2 _) yf_L_low ys_L_low wM_L_33 ⟨Nat.le_of_ble_eq_true rfl, Nat.le_of_ble_eq_true rfl⟩ hP hD (p_none _) hl rfl rfl (Nat.le_of_ble_eq_true rfl) dL_law_112 ⟨show 88 + 10 * ei ≤ 600000 from by omega, show 585 + 180 * ei ≤ 7302250 from by omega⟩) hP hD hS hA (p_none _) (p_noneB _) (fun H locs hP hD hS => ?_)
  by_cases k_2 : (nI j_2) = 0
  · refine lv_tableIn (off := 49) (tgt := 164) hx hb dL_law_115 (by rw [k_2]; decide) (by rw [k_2]; decide) (by rw [k_2]; rfl) (by decide) ?_
    exact lw_c0 Z (by omega) (by omega) h hq (by omega) hj_1 (fun tm1 cn1 q1 t1 f1 k1 S1 R1 g1 g2 g3 => lw_next Z hei nx0 tm1 cn1 q1 t1 f1 k1 S1 R1 g1 g2 (by omega)) ls _ _ hP hD hS (lv_sub hl [0, 1, 2, 3, 4, 5, 6, 7, 8] rfl)
  by_cases k_3 : (nI j_2) = 1
  · refine lv_tableIn (off := 132) (tgt := 247) hx hb dL_law_115 (by rw [k_3]; decide) (by rw [k_3]; decide) (by rw [k_3]; rfl) (by decide) ?_
    exact lw_c1 Z (by omega) (by omega) h hq (by omega) hj_1 (fun tm1 cn1 q1 t1 f1 k1 S1 R1 g1 g2 g3 => lw_next Z hei nx0 tm1 cn1 q1 t1 f1 k1 S1 R1 g1 g2 (by omega)) ls _ _ hP hD hS (lv_sub hl [0, 1, 2, 3, 4, 5, 6, 7, 8] rfl)
  by_cases k_4 : (nI j_2) = 2
  · refine lv_tableIn (off := 199) (tgt := 314) hx hb dL_law_115 (by rw [k_4]; decide) (by rw [k_4]; decide) (by rw [k_4]; rfl) (by decide) ?_
    exact lw_c2 Z (by omega) (by omega) h hq (by omega) hj_1 (fun tm1 cn1 q1 t1 f1 k1 S1 R1 g1 g2 g3 => lw_next Z hei nx0 tm1 cn1 q1 t1 f1 k1 S1 R1 g1 g2 (by omega)) ls _ _ hP hD hS (lv_sub hl [0, 1, 2, 3, 4, 5, 6, 7, 8] rfl)
  by_cases k_5 : (nI j_2) = 3
  · refine lv_tableIn (off := 254) (tgt := 369) hx hb dL_law_115 (by rw [k_5]; decide) (by rw [k_5]; decide) (by rw [k_5]; rfl) (by decide) ?_
    exact lw_c3 Z (by omega) (by omega) h hq (by omega) hj_1 (fun tm1 cn1 q1 t1 f1 k1 S1 R1 g1 g2 g3 => lw_next Z hei nx0 tm1 cn1 q1 t1 f1 k1 S1 R1 g1 g2 (by omega)) ls _ _ hP hD hS (lv_sub hl [0, 1, 2, 3, 4, 5, 6, 7, 8] rfl)
  by_cases k_6 : (nI j_2) = 4
  · refine lv_tableIn (off := 302) (tgt := 417) hx hb dL_law_115 (by rw [k_6]; decide) (by rw [k_6]; decide) (by rw [k_6]; rfl) (by decide) ?_
    exact lw_c4 Z (by omega) (by omega) h hq (by omega) hj_1 (fun tm1 cn1 q1 t1 f1 k1 S1 R1 g1 g2 g3 => lw_next Z hei nx0 tm1 cn1 q1 t1 f1 k1 S1 R1 g1 g2 (by omega)) ls _ _ hP hD hS (lv_sub hl [0, 1, 2, 3, 4, 5, 6, 7, 8] rfl)
  by_cases k_7 : (nI j_2) = 5
  · refine lv_tableIn (off := 302) (tgt := 417) hx hb dL_law_115 (by rw [k_7]; decide) (by rw [k_7]; decide) (by rw [k_7]; rfl) (by decide) ?_
    exact lw_c4 Z (by omega) (by omega) h hq (by omega) hj_1 (fun tm1 cn1 q1 t1 f1 k1 S1 R1 g1 g2 g3 => lw_next Z hei nx0 tm1 cn1 q1 t1 f1 k1 S1 R1 g1 g2 (by omega)) ls _ _ hP hD hS (lv_sub hl [0, 1, 2, 3, 4, 5, 6, 7, 8] rfl)
  by_cases k_8 : (nI j_2) = 6
  · refine lv_tableIn (off := 500) (tgt := 615) hx hb dL_law_115 (by rw [k_8]; decide) (by rw [k_8]; decide) (by rw [k_8]; rfl) (by decide) ?_
    exact lw_c6 Z (by omega) (by omega) h hq (by omega) hj_1 (fun tm1 cn1 q1 t1 f1 k1 S1 R1 g1 g2 g3 => lw_next Z hei nx0 tm1 cn1 q1 t1 f1 k1 S1 R1 g1 g2 (by omega)) ls _ _ hP hD hS (lv_sub hl [0, 1, 2, 3, 4, 5, 6, 7, 8] rfl)
  by_cases k_9 : (nI j_2) = 7
  · refine lv_tableIn (off := 591) (tgt := 706) hx hb dL_law_115 (by rw [k_9]; decide) (by rw [k_9]; decide) (by rw [k_9]; rfl) (by decide) ?_
    exact lw_c7 Z (by omega) (by omega) h hq (by omega) hj_1 (fun tm1 cn1 q1 t1 f1 k1 S1 R1 g1 g2 g3 => lw_next Z hei nx0 tm1 cn1 q1 t1 f1 k1 S1 R1 g1 g2 (by omega)) ls _ _ hP hD hS (lv_sub hl [0, 1, 2, 3, 4, 5, 6, 7, 8] rfl)
  by_cases k_10 : (nI j_2) = 8
  · refine lv_tableIn (off := 633) (tgt := 748) hx hb dL_law_115 (by rw [k_10]; decide) (by rw [k_10]; decide) (by rw [k_10]; rfl) (by decide) ?_
    exact lw_c8 Z (by omega) (by omega) h hq (by omega) hj_1 (fun tm1 cn1 q1 t1 f1 k1 S1 R1 g1 g2 g3 => lw_next Z hei nx0 tm1 cn1 q1 t1 f1 k1 S1 R1 g1 g2 (by omega)) ls _ _ hP hD hS (lv_sub hl [0, 1, 2, 3, 4, 5, 6, 7, 8] rfl)
  refine lv_tableOut (tgt := 869) hx hb dL_law_115 (by have z := fun (n : Int) (q : ((nI j_2)).toInt = n) => q; have y0 := lv_neT k_2 (a := 0) rfl; have y1 := lv_neT k_3 (a := 1) rfl; have y2 := lv_neT k_4 (a := 2) rfl; have y3 := lv_neT k_5 (a := 3) rfl; have y4 := lv_neT k_6 (a := 4) rfl; have y5 := lv_neT k_7 (a := 5) rfl; have y6 := lv_neT k_8 (a := 6) rfl; have y7 := lv_neT k_9 (a := 7) rfl; have y8 := lv_neT k_10 (a := 8) rfl; omega) (by decide) ?_
  exact lw_c9 Z (by omega) (by omega) h hq (by omega) hj_1 (fun tm1 cn1 q1 t1 f1 k1 S1 R1 g1 g2 g3 => lw_next Z hei nx0 tm1 cn1 q1 t1 f1 k1 S1 R1 g1 g2 (by omega)) ls _ _ hP hD hS (lv_sub hl [0, 1, 2, 3, 4, 5, 6, 7, 8] rfl)
set_option maxHeartbeats 4000000 in
set_option maxRecDepth 100000 in
theorem lw_loop {p : Program} {l : Launch} {e : Env} {s : State} {m : MethodId} {below : List Frame} {meth : Method} {c : Code} {g : wG} {tt : Nat → Nat} {b L : Nat} {xs : Nat → Int32} {A : Nat → Prop} {ad : Nat → Nat → Nat} {bf bk bt : Nat} (Z : LwX p s m c g tt b L xs A) (hA2 : ∀ q, A q → s.heap.size ≤ q) (hr : meth.sig.returnType = ret) (hlocks : meth.locks = false) : ∀ (n ei : Nat), ei + n = 36 → ∀ (tm cn : Nat) (q : CS) (t f k : RI) (S R : Nat → Nat), RQx tm cn q t f k S R → cL q < 5 → tm ≤ 800 * ei → LwG p l e s m below meth c g b A [(5, .int (nI ei)), (1, .ref (ad 8 0)), (2, .ref bf), (3, .ref bk), (4, .ref bt), (0, .ref b)] 80 (88 + 10 * ei) (585 + 180 * ei) (LW g bf bk bt f k t ++ CW g ad q) := by
  intro n
  induction n with
  | zero =>
    intro ei hn tm cn q t f k S R h hq ht ls H locs hP hD hS hl
    obtain ⟨X, hZ, hT, hL, hA⟩ := id Z
    obtain ⟨⟨hx, hb, hml, hown, hts⟩, hK, hN⟩ := id X
    refine lv_iload hx hb dL_law_80 (lv_at hl 0 rfl) ?_
    refine lv_bipush (v := 36) hx hb dL_law_82 (by decide) ?_
    refine lv_icmp_ge (tgt := 1409) hx hb dL_law_84 (by decide) (fun c_1 => ?_) (fun q9 => absurd (show 36 ≤ nI ei from nI_le (a := 36) (by omega) (by omega)) (show ¬ 36 ≤ nI ei from q9))
    refine lv_iconst (v := 1) hx hb dL_law_1409 (by decide) ?_
    refine va_forget (fun q hq => hA2 _ (hS.2.2 q hq)) ?_
    refine W.widen (k := 600000) (n := 7302250) (by omega) (by omega) ?_
    exact lw_ret hx hb hr hlocks dL_law_1410
  | succ n ih =>
    intro ei hn
    exact lw_one Z (show ei < 36 from by omega) (ih (ei + 1) (by omega))

def ltM (B : RI) (Y s : Nat) : Int32 := if nI Y ≤ nI s then -1000 else B s
def fgM (B : RI) (Y s : Nat) : Int32 := ltM B Y s - 48
def wtM (b : Int32) (u : Nat × Int32) : Nat × Int32 := if u.2 = -1000 then (u.1 + 1, if b = 0 then nI u.1 else -1000) else u
theorem wt_le (b : Int32) (u : Nat × Int32) : (wtM b u).1 ≤ u.1 + 1 := by
  unfold wtM
  split
  · exact Nat.le_refl _
  · exact Nat.le_succ _
abbrev uM (r : MS) : Nat × Int32 := (mS r, mW r)
abbrev msu (r : MS) (u : Nat × Int32) : MS := (mZ r, mP r, mK r, mA r, mB r, mO r, mM r, mI r, mY r, mT r, u.1, u.2)
theorem lt60 {Y s : Nat} (hs : s < 2 ^ 31) (hy : Y ≤ 60) (h : ¬ nI Y ≤ nI s) : s < 60 := by
  rcases Nat.lt_or_ge s 60 with q | q
  · exact q
  · exact absurd (nI_le (by omega) hs) h
set_option maxHeartbeats 4000000 in
set_option maxRecDepth 100000 in
theorem c_X6_letter (l : Launch) (g : wG) (o : Nat → Nat) (r : MS) (hy6 : mY r ≤ 60) (hs : mS r < 2 ^ 31) : CtI l g 0 yX6_letter cX6_letter 1 (some .int) [.ref (o 0)] (MW g o r) (ltM (mB r) (mY r) (mS r)) (MW g o r) := by
  intro sz
  refine x_enter (Qc := fun A => QI g A (ltM (mB r) (mY r) (mS r)) (MW g o r)) (by decide) (Nat.le_of_ble_eq_true rfl) ?_
  intro p e s m args below meth c X hr hlocks A hA hP hD hS ls hl
  obtain ⟨⟨hx, hb, hml, hown, hts⟩, hK, hN⟩ := id X
  have hl : lv_has ls 1 [(0, .ref (o 0))] := hl
  refine lv_aload_n hx hb dX6_letter_0 rfl (lv_at hl 0 rfl) ?_
  refine x_get (v := .int (nI (mS r))) X 0 10 in_X6 hP rfl rfl (by decide) wF_X6_135 rfl rfl dX6_letter_1 ?_
  refine lv_aload_n hx hb dX6_letter_4 rfl (lv_at hl 0 rfl) ?_
  refine x_get (v := .int (nI (mY r))) X 0 7 in_X6 hP rfl rfl (by decide) wF_X6_132 rfl rfl dX6_letter_5 ?_
  refine lv_icmp_ge (tgt := 23) hx hb dX6_letter_8 (by decide) (fun (c_1 : (nI (mY r)) ≤ (nI (mS r))) => ?_) (fun (c_1 : ¬ (nI (mY r)) ≤ (nI (mS r))) => ?_)
  · refine lv_sipush (v := (-1000)) hx hb dX6_letter_23 (by decide) ?_
    exact x_iret X hr hlocks hP hD hS (by simp only [ltM, if_pos c_1]) dX6_letter_26
  · refine lv_aload_n hx hb dX6_letter_11 rfl (lv_at hl 0 rfl) ?_
    refine x_get (v := .ref (o 5)) X 0 6 in_X6 hP rfl rfl (by decide) wF_X6_22 rfl rfl dX6_letter_12 ?_
    refine lv_aload_n hx hb dX6_letter_15 rfl (lv_at hl 0 rfl) ?_
    refine x_get (v := .int (nI (mS r))) X 0 10 in_X6 hP rfl rfl (by decide) wF_X6_135 rfl rfl dX6_letter_16 ?_
    refine x_cald (v := ((mB r) (mS r))) X 5 (mS r) hP rfl rfl (lt60 hs hy6 c_1) (Nat.le_of_ble_eq_true rfl) rfl dX6_letter_19 ?_
    refine lv_goto (tgt := 26) hx hb dX6_letter_20 (by decide) ?_
    exact x_iret X hr hlocks hP hD hS (by simp only [ltM, if_neg c_1]) dX6_letter_26

set_option maxHeartbeats 4000000 in
set_option maxRecDepth 100000 in
theorem c_X6_wants (l : Launch) (g : wG) (o : Nat → Nat) (r : MS) (b : Int32) : CtV l g 0 yX6_wants cX6_wants 2 none [.ref (o 0), .int b] (MW g o r) (MW g o (msu r (wtM b (uM r)))) := by
  intro sz
  refine x_enter (Qc := fun A => QV g A (MW g o (msu r (wtM b (uM r))))) (by decide) (Nat.le_of_ble_eq_true rfl) ?_
  intro p e s m args below meth c X hr hlocks A hA hP hD hS ls hl
  obtain ⟨⟨hx, hb, hml, hown, hts⟩, hK, hN⟩ := id X
  have hl : lv_has ls 2 [(0, .ref (o 0)), (1, .int b)] := hl
  refine lv_aload_n hx hb dX6_wants_0 rfl (lv_at hl 0 rfl) ?_
  refine x_get (v := .int (mW r)) X 0 11 in_X6 hP rfl rfl (by decide) wF_X6_138 rfl rfl dX6_wants_1 ?_
  refine lv_sipush (v := (-1000)) hx hb dX6_wants_4 (by decide) ?_
  refine lv_icmp_ne (tgt := 38) hx hb dX6_wants_7 (by decide) (fun (c_1 : ¬ (mW r) = (-1000)) => ?_) (fun (c_1 : (mW r) = (-1000)) => ?_)
  · have E : (MW g o r : va_W) = MW g o (msu r (wtM b (uM r))) := by (simp only [wtM, if_neg c_1]) <;> rfl
    exact x_vret X hr hlocks (pw E hP) (dw E hD) hS dX6_wants_38
  · refine lv_aload_n hx hb dX6_wants_10 rfl (lv_at hl 0 rfl) ?_
    refine lv_iload_n hx hb dX6_wants_11 rfl (lv_at hl 1 rfl) ?_
    refine lv_if_eq (tgt := 21) hx hb dX6_wants_12 (by decide) (fun (c_2 : b = 0) => ?_) (fun (c_2 : ¬ b = 0) => ?_)
    · refine lv_aload_n hx hb dX6_wants_21 rfl (lv_at hl 0 rfl) ?_
      refine x_get (v := .int (nI (mS r))) X 0 10 in_X6 hP rfl rfl (by decide) wF_X6_135 rfl rfl dX6_wants_22 ?_
      refine x_put (v := .int (nI (mS r))) (ty0 := tyX6) (ws2 := MW g o ((mZ r), (mP r), (mK r), (mA r), (mB r), (mO r), (mM r), (mI r), (mY r), (mT r), (mS r), (nI (mS r)))) X 0 11 in_X6 tyX6_ok nmX6 hP hD hS rfl rfl (by decide) wF_X6_138 rfl rfl rfl rfl (Nat.le_of_ble_eq_true rfl) rfl dX6_wants_25 (fun H locs hP hD hS => ?_)
      refine lv_aload_n hx hb dX6_wants_28 rfl (lv_at hl 0 rfl) ?_
      refine lv_dup hx hb dX6_wants_29 rfl ?_
      refine x_get (v := .int (nI (mS r))) X 0 10 in_X6 hP rfl rfl (by decide) wF_X6_135 rfl rfl dX6_wants_30 ?_
      refine lv_iconst (v := 1) hx hb dX6_wants_33 (by decide) ?_
      refine lv_iadd hx hb dX6_wants_34 ?_
      refine W.eq (g2 := F0 m 35 ls [.int (nI ((mS r) + 1)), .ref (o 0)]) (by rw [nI_1]) ?_
      refine x_put (v := .int (nI ((mS r) + 1))) (ty0 := tyX6) (ws2 := MW g o ((mZ r), (mP r), (mK r), (mA r), (mB r), (mO r), (mM r), (mI r), (mY r), (mT r), ((mS r) + 1), (nI (mS r)))) X 0 10 in_X6 tyX6_ok nmX6 hP hD hS rfl rfl (by decide) wF_X6_135 rfl rfl rfl rfl (Nat.le_of_ble_eq_true rfl) rfl dX6_wants_35 (fun H locs hP hD hS => ?_)
      have E : (MW g o ((mZ r), (mP r), (mK r), (mA r), (mB r), (mO r), (mM r), (mI r), (mY r), (mT r), ((mS r) + 1), (nI (mS r))) : va_W) = MW g o (msu r (wtM b (uM r))) := by (simp only [wtM, if_pos c_1, if_pos c_2]) <;> rfl
      exact x_vret X hr hlocks (pw E hP) (dw E hD) hS dX6_wants_38
    · refine lv_sipush (v := (-1000)) hx hb dX6_wants_15 (by decide) ?_
      refine lv_goto (tgt := 25) hx hb dX6_wants_18 (by decide) ?_
      refine x_put (v := .int (-1000)) (ty0 := tyX6) (ws2 := MW g o ((mZ r), (mP r), (mK r), (mA r), (mB r), (mO r), (mM r), (mI r), (mY r), (mT r), (mS r), (-1000))) X 0 11 in_X6 tyX6_ok nmX6 hP hD hS rfl rfl (by decide) wF_X6_138 rfl rfl rfl rfl (Nat.le_of_ble_eq_true rfl) rfl dX6_wants_25 (fun H locs hP hD hS => ?_)
      refine lv_aload_n hx hb dX6_wants_28 rfl (lv_at hl 0 rfl) ?_
      refine lv_dup hx hb dX6_wants_29 rfl ?_
      refine x_get (v := .int (nI (mS r))) X 0 10 in_X6 hP rfl rfl (by decide) wF_X6_135 rfl rfl dX6_wants_30 ?_
      refine lv_iconst (v := 1) hx hb dX6_wants_33 (by decide) ?_
      refine lv_iadd hx hb dX6_wants_34 ?_
      refine W.eq (g2 := F0 m 35 ls [.int (nI ((mS r) + 1)), .ref (o 0)]) (by rw [nI_1]) ?_
      refine x_put (v := .int (nI ((mS r) + 1))) (ty0 := tyX6) (ws2 := MW g o ((mZ r), (mP r), (mK r), (mA r), (mB r), (mO r), (mM r), (mI r), (mY r), (mT r), ((mS r) + 1), (-1000))) X 0 10 in_X6 tyX6_ok nmX6 hP hD hS rfl rfl (by decide) wF_X6_135 rfl rfl rfl rfl (Nat.le_of_ble_eq_true rfl) rfl dX6_wants_35 (fun H locs hP hD hS => ?_)
      have E : (MW g o ((mZ r), (mP r), (mK r), (mA r), (mB r), (mO r), (mM r), (mI r), (mY r), (mT r), ((mS r) + 1), (-1000)) : va_W) = MW g o (msu r (wtM b (uM r))) := by (simp only [wtM, if_pos c_1, if_neg c_2]) <;> rfl
      exact x_vret X hr hlocks (pw E hP) (dw E hD) hS dX6_wants_38

def figU (B : RI) (Y : Nat) (x : Int32) (u : Nat × Int32) : Nat × Int32 := wtM (isw (fgM B Y u.1) 0 x) u
theorem fig_le (B : RI) (Y : Nat) (x : Int32) (u : Nat × Int32) : (figU B Y x u).1 ≤ u.1 + 1 := wt_le _ _
set_option maxHeartbeats 4000000 in
set_option maxRecDepth 100000 in
theorem c_X6_figure (l : Launch) (g : wG) (o : Nat → Nat) (r : MS) (hy6 : mY r ≤ 60) (hs : mS r < 1000) (x : Int32) : CtI l g 1 yX6_figure cX6_figure 3 (some .int) [.ref (o 0), .int x] (MW g o r) (fgM (mB r) (mY r) (mS r)) (MW g o ((mZ r), (mP r), (mK r), (mA r), (mB r), (mO r), (mM r), (mI r), (mY r), (mT r), ((figU (mB r) (mY r) x (uM r)).1), ((figU (mB r) (mY r) x (uM r)).2))) := by
  intro sz
  refine x_enter (Qc := fun A => QI g A (fgM (mB r) (mY r) (mS r)) (MW g o ((mZ r), (mP r), (mK r), (mA r), (mB r), (mO r), (mM r), (mI r), (mY r), (mT r), ((figU (mB r) (mY r) x (uM r)).1), ((figU (mB r) (mY r) x (uM r)).2)))) (by decide) (Nat.le_of_ble_eq_true rfl) ?_
  intro p e s m args below meth c X hr hlocks A hA hP hD hS ls hl
  obtain ⟨⟨hx, hb, hml, hown, hts⟩, hK, hN⟩ := id X
  have hl : lv_has ls 3 [(0, .ref (o 0)), (1, .int x)] := hl
  refine lv_aload_n hx hb dX6_figure_0 rfl (lv_at hl 0 rfl) ?_
  refine x_goI (wn := MW g o r) (x_rV (As := []) X (c_X6_letter l g o r hy6 (show mS r < 2 ^ 31 from by omega)  _) yf_X6_letter yi_X6_letter wM_X6_141 ⟨Nat.le_of_ble_eq_true rfl, Nat.le_of_ble_eq_true rfl⟩ hP hD (p_all _) 0 rfl rfl hl rfl rfl (Nat.le_of_ble_eq_true rfl) dX6_figure_1 ⟨Nat.zero_le _, Nat.zero_le _⟩) hP hD hS hA (p_all _) (p_back _) (fun H locs hP hD hS => ?_)
  refine lv_bipush (v := 48) hx hb dX6_figure_4 (by decide) ?_
  refine lv_isub hx hb dX6_figure_6 ?_
  refine lv_istore_n (lv' := [(2, .int ((ltM (mB r) (mY r) (mS r)) - 48)), (0, .ref (o 0)), (1, .int x)]) hx hb dX6_figure_7 rfl hl (by decide) rfl (fun ls hl => ?_)
  refine lv_aload_n hx hb dX6_figure_8 rfl (lv_at hl 1 rfl) ?_
  refine lv_iload_n hx hb dX6_figure_9 rfl (lv_at hl 0 rfl) ?_
  refine lv_iconst (v := 0) hx hb dX6_figure_10 (by decide) ?_
  refine lv_iload_n hx hb dX6_figure_11 rfl (lv_at hl 2 rfl) ?_
  refine x_goI (wn := MW g o r) (x_rS (As := [.int ((ltM (mB r) (mY r) (mS r)) - 48), .int 0, .int x]) X (c_X6_in l g ((ltM (mB r) (mY r) (mS r)) - 48) 0 x _) yf_X6_in ys_X6_in wM_X6_33 ⟨Nat.le_of_ble_eq_true rfl, Nat.le_of_ble_eq_true rfl⟩ hP hD (p_none _) hl rfl rfl (Nat.le_of_ble_eq_true rfl) dX6_figure_12 ⟨Nat.zero_le _, Nat.zero_le _⟩) hP hD hS hA (p_none _) (p_noneB _) (fun H locs hP hD hS => ?_)
  refine x_goV (wn := MW g o ((mZ r), (mP r), (mK r), (mA r), (mB r), (mO r), (mM r), (mI r), (mY r), (mT r), ((wtM (isw ((ltM (mB r) (mY r) (mS r)) - 48) 0 x) (uM r)).1), ((wtM (isw ((ltM (mB r) (mY r) (mS r)) - 48) 0 x) (uM r)).2))) (x_rV (As := [.int (isw ((ltM (mB r) (mY r) (mS r)) - 48) 0 x)]) X (c_X6_wants l g o r  (isw ((ltM (mB r) (mY r) (mS r)) - 48) 0 x) _) yf_X6_wants yi_X6_wants wM_X6_144 ⟨Nat.le_of_ble_eq_true rfl, Nat.le_of_ble_eq_true rfl⟩ hP hD (p_all _) 0 rfl rfl hl rfl rfl (Nat.le_of_ble_eq_true rfl) dX6_figure_15 ⟨Nat.zero_le _, Nat.zero_le _⟩) hP hD hS hA (p_all _) (p_back _) (fun H locs hP hD hS => ?_)
  refine lv_iload_n hx hb dX6_figure_18 rfl (lv_at hl 0 rfl) ?_
  exact x_iret X hr hlocks hP hD hS rfl dX6_figure_19

def ck1 (B : RI) (Y : Nat) (u : Nat × Int32) : Nat × Int32 := figU B Y 2 u
def ck2 (B : RI) (Y : Nat) (u : Nat × Int32) : Nat × Int32 := figU B Y (if fgM B Y u.1 = 2 then 3 else 9) (ck1 B Y u)
def ck3 (B : RI) (Y : Nat) (u : Nat × Int32) : Nat × Int32 := wtM (if ltM B Y (ck2 B Y u).1 = 58 then 1 else 0) (ck2 B Y u)
def ck4 (B : RI) (Y : Nat) (u : Nat × Int32) : Nat × Int32 := figU B Y 5 (ck3 B Y u)
def clkU (B : RI) (Y : Nat) (u : Nat × Int32) : Nat × Int32 := figU B Y 9 (ck4 B Y u)
def clkV (B : RI) (Y : Nat) (u : Nat × Int32) : Int32 := ((60 * ((10 * fgM B Y u.1) + fgM B Y (ck1 B Y u).1)) + (10 * fgM B Y (ck3 B Y u).1)) + fgM B Y (ck4 B Y u).1
theorem clk_le (B : RI) (Y : Nat) (u : Nat × Int32) : (clkU B Y u).1 ≤ u.1 + 5 :=
  Nat.le_trans (wt_le _ _) (Nat.add_le_add_right (Nat.le_trans (wt_le _ _) (Nat.add_le_add_right (Nat.le_trans (wt_le _ _) (Nat.add_le_add_right (Nat.le_trans (wt_le _ _) (Nat.add_le_add_right (wt_le _ _) 1)) 1)) 1)) 1)
set_option maxHeartbeats 4000000 in
set_option maxRecDepth 100000 in
theorem c_X6_clock (l : Launch) (g : wG) (o : Nat → Nat) (r : MS) (hy6 : mY r ≤ 60) (hs : mS r < 900) : CtI l g 2 yX6_clock cX6_clock 4 (some .int) [.ref (o 0)] (MW g o r) (clkV (mB r) (mY r) (uM r)) (MW g o (msu r (clkU (mB r) (mY r) (uM r)))) := by
  intro sz
  refine x_enter (Qc := fun A => QI g A (clkV (mB r) (mY r) (uM r)) (MW g o (msu r (clkU (mB r) (mY r) (uM r))))) (by decide) (Nat.le_of_ble_eq_true rfl) ?_
  intro p e s m args below meth c X hr hlocks A hA hP hD hS ls hl
  obtain ⟨⟨hx, hb, hml, hown, hts⟩, hK, hN⟩ := id X
  have hl : lv_has ls 4 [(0, .ref (o 0))] := hl
  refine lv_aload_n hx hb dX6_clock_0 rfl (lv_at hl 0 rfl) ?_
  refine lv_iconst (v := 2) hx hb dX6_clock_1 (by decide) ?_
  refine x_goI (wn := MW g o ((mZ r), (mP r), (mK r), (mA r), (mB r), (mO r), (mM r), (mI r), (mY r), (mT r), ((figU (mB r) (mY r) 2 (uM r)).1), ((figU (mB r) (mY r) 2 (uM r)).2))) (x_rV (As := [.int 2]) X (c_X6_figure l g o r hy6 (show mS r < 1000 from by omega) 2  _) yf_X6_figure yi_X6_figure wM_X6_148 ⟨Nat.le_of_ble_eq_true rfl, Nat.le_of_ble_eq_true rfl⟩ hP hD (p_all _) 0 rfl rfl hl rfl rfl (Nat.le_of_ble_eq_true rfl) dX6_clock_2 ⟨Nat.zero_le _, Nat.zero_le _⟩) hP hD hS hA (p_all _) (p_back _) (fun H locs hP hD hS => ?_)
  refine lv_istore_n (lv' := [(1, .int (fgM (mB r) (mY r) (mS r))), (0, .ref (o 0))]) hx hb dX6_clock_5 rfl hl (by decide) rfl (fun ls hl => ?_)
  refine lv_bipush (v := 10) hx hb dX6_clock_6 (by decide) ?_
  refine lv_iload_n hx hb dX6_clock_8 rfl (lv_at hl 0 rfl) ?_
  refine lv_imul hx hb dX6_clock_9 ?_
  refine lv_aload_n hx hb dX6_clock_10 rfl (lv_at hl 1 rfl) ?_
  refine lv_iload_n hx hb dX6_clock_11 rfl (lv_at hl 0 rfl) ?_
  refine lv_iconst (v := 2) hx hb dX6_clock_12 (by decide) ?_
  refine lv_icmp_ne (tgt := 20) hx hb dX6_clock_13 (by decide) (fun (c_1 : ¬ (fgM (mB r) (mY r) (mS r)) = 2) => ?_) (fun (c_1 : (fgM (mB r) (mY r) (mS r)) = 2) => ?_)
  · refine lv_bipush (v := 9) hx hb dX6_clock_20 (by decide) ?_
    refine x_goI (wn := MW g o ((mZ r), (mP r), (mK r), (mA r), (mB r), (mO r), (mM r), (mI r), (mY r), (mT r), ((figU (mB r) (mY r) 9 (figU (mB r) (mY r) 2 (uM r))).1), ((figU (mB r) (mY r) 9 (figU (mB r) (mY r) 2 (uM r))).2))) (x_rV (As := [.int 9]) X (c_X6_figure l g o ((mZ r), (mP r), (mK r), (mA r), (mB r), (mO r), (mM r), (mI r), (mY r), (mT r), ((figU (mB r) (mY r) 2 (uM r)).1), ((figU (mB r) (mY r) 2 (uM r)).2)) hy6 (show (figU (mB r) (mY r) 2 (uM r)).1 < 1000 from by have q1 := fig_le (mB r) (mY r) 2 (uM r); have q0 : (uM r).1 = mS r := rfl; omega) 9  _) yf_X6_figure yi_X6_figure wM_X6_148 ⟨Nat.le_of_ble_eq_true rfl, Nat.le_of_ble_eq_true rfl⟩ hP hD (p_all _) 0 rfl rfl hl rfl rfl (Nat.le_of_ble_eq_true rfl) dX6_clock_22 ⟨Nat.zero_le _, Nat.zero_le _⟩) hP hD hS hA (p_all _) (p_back _) (fun H locs hP hD hS => ?_)
    refine lv_iadd hx hb dX6_clock_25 ?_
    refine lv_istore_n (lv' := [(2, .int ((10 * (fgM (mB r) (mY r) (mS r))) + (fgM (mB r) (mY r) (figU (mB r) (mY r) 2 (uM r)).1))), (1, .int (fgM (mB r) (mY r) (mS r))), (0, .ref (o 0))]) hx hb dX6_clock_26 rfl hl (by decide) rfl (fun ls hl => ?_)
    refine lv_aload_n hx hb dX6_clock_27 rfl (lv_at hl 2 rfl) ?_
    refine lv_aload_n hx hb dX6_clock_28 rfl (lv_at hl 2 rfl) ?_
    refine x_goI (wn := MW g o ((mZ r), (mP r), (mK r), (mA r), (mB r), (mO r), (mM r), (mI r), (mY r), (mT r), ((figU (mB r) (mY r) 9 (figU (mB r) (mY r) 2 (uM r))).1), ((figU (mB r) (mY r) 9 (figU (mB r) (mY r) 2 (uM r))).2))) (x_rV (As := []) X (c_X6_letter l g o ((mZ r), (mP r), (mK r), (mA r), (mB r), (mO r), (mM r), (mI r), (mY r), (mT r), ((figU (mB r) (mY r) 9 (figU (mB r) (mY r) 2 (uM r))).1), ((figU (mB r) (mY r) 9 (figU (mB r) (mY r) 2 (uM r))).2)) hy6 (show (figU (mB r) (mY r) 9 (figU (mB r) (mY r) 2 (uM r))).1 < 2 ^ 31 from by have q1 := fig_le (mB r) (mY r) 2 (uM r); have q2 := fig_le (mB r) (mY r) 9 (figU (mB r) (mY r) 2 (uM r)); have q0 : (uM r).1 = mS r := rfl; omega)  _) yf_X6_letter yi_X6_letter wM_X6_141 ⟨Nat.le_of_ble_eq_true rfl, Nat.le_of_ble_eq_true rfl⟩ hP hD (p_all _) 0 rfl rfl hl rfl rfl (Nat.le_of_ble_eq_true rfl) dX6_clock_29 ⟨Nat.zero_le _, Nat.zero_le _⟩) hP hD hS hA (p_all _) (p_back _) (fun H locs hP hD hS => ?_)
    refine lv_bipush (v := 58) hx hb dX6_clock_32 (by decide) ?_
    refine lv_icmp_ne (tgt := 41) hx hb dX6_clock_34 (by decide) (fun (c_2 : ¬ (ltM (mB r) (mY r) (figU (mB r) (mY r) 9 (figU (mB r) (mY r) 2 (uM r))).1) = 58) => ?_) (fun (c_2 : (ltM (mB r) (mY r) (figU (mB r) (mY r) 9 (figU (mB r) (mY r) 2 (uM r))).1) = 58) => ?_)
    · refine lv_iconst (v := 0) hx hb dX6_clock_41 (by decide) ?_
      refine x_goV (wn := MW g o ((mZ r), (mP r), (mK r), (mA r), (mB r), (mO r), (mM r), (mI r), (mY r), (mT r), ((wtM 0 (figU (mB r) (mY r) 9 (figU (mB r) (mY r) 2 (uM r)))).1), ((wtM 0 (figU (mB r) (mY r) 9 (figU (mB r) (mY r) 2 (uM r)))).2))) (x_rV (As := [.int 0]) X (c_X6_wants l g o ((mZ r), (mP r), (mK r), (mA r), (mB r), (mO r), (mM r), (mI r), (mY r), (mT r), ((figU (mB r) (mY r) 9 (figU (mB r) (mY r) 2 (uM r))).1), ((figU (mB r) (mY r) 9 (figU (mB r) (mY r) 2 (uM r))).2))  0 _) yf_X6_wants yi_X6_wants wM_X6_144 ⟨Nat.le_of_ble_eq_true rfl, Nat.le_of_ble_eq_true rfl⟩ hP hD (p_all _) 0 rfl rfl hl rfl rfl (Nat.le_of_ble_eq_true rfl) dX6_clock_42 ⟨Nat.zero_le _, Nat.zero_le _⟩) hP hD hS hA (p_all _) (p_back _) (fun H locs hP hD hS => ?_)
      refine lv_bipush (v := 10) hx hb dX6_clock_45 (by decide) ?_
      refine lv_aload_n hx hb dX6_clock_47 rfl (lv_at hl 2 rfl) ?_
      refine lv_iconst (v := 5) hx hb dX6_clock_48 (by decide) ?_
      refine x_goI (wn := MW g o ((mZ r), (mP r), (mK r), (mA r), (mB r), (mO r), (mM r), (mI r), (mY r), (mT r), ((figU (mB r) (mY r) 5 (wtM 0 (figU (mB r) (mY r) 9 (figU (mB r) (mY r) 2 (uM r))))).1), ((figU (mB r) (mY r) 5 (wtM 0 (figU (mB r) (mY r) 9 (figU (mB r) (mY r) 2 (uM r))))).2))) (x_rV (As := [.int 5]) X (c_X6_figure l g o ((mZ r), (mP r), (mK r), (mA r), (mB r), (mO r), (mM r), (mI r), (mY r), (mT r), ((wtM 0 (figU (mB r) (mY r) 9 (figU (mB r) (mY r) 2 (uM r)))).1), ((wtM 0 (figU (mB r) (mY r) 9 (figU (mB r) (mY r) 2 (uM r)))).2)) hy6 (show (wtM 0 (figU (mB r) (mY r) 9 (figU (mB r) (mY r) 2 (uM r)))).1 < 1000 from by have q1 := fig_le (mB r) (mY r) 2 (uM r); have q2 := fig_le (mB r) (mY r) 9 (figU (mB r) (mY r) 2 (uM r)); have q3 := wt_le 0 (figU (mB r) (mY r) 9 (figU (mB r) (mY r) 2 (uM r))); have q0 : (uM r).1 = mS r := rfl; omega) 5  _) yf_X6_figure yi_X6_figure wM_X6_148 ⟨Nat.le_of_ble_eq_true rfl, Nat.le_of_ble_eq_true rfl⟩ hP hD (p_all _) 0 rfl rfl hl rfl rfl (Nat.le_of_ble_eq_true rfl) dX6_clock_49 ⟨Nat.zero_le _, Nat.zero_le _⟩) hP hD hS hA (p_all _) (p_back _) (fun H locs hP hD hS => ?_)
      refine lv_imul hx hb dX6_clock_52 ?_
      refine lv_istore_n (lv' := [(3, .int (10 * (fgM (mB r) (mY r) (wtM 0 (figU (mB r) (mY r) 9 (figU (mB r) (mY r) 2 (uM r)))).1))), (2, .int ((10 * (fgM (mB r) (mY r) (mS r))) + (fgM (mB r) (mY r) (figU (mB r) (mY r) 2 (uM r)).1))), (1, .int (fgM (mB r) (mY r) (mS r))), (0, .ref (o 0))]) hx hb dX6_clock_53 rfl hl (by decide) rfl (fun ls hl => ?_)
      refine lv_bipush (v := 60) hx hb dX6_clock_54 (by decide) ?_
      refine lv_iload_n hx hb dX6_clock_56 rfl (lv_at hl 1 rfl) ?_
      refine lv_imul hx hb dX6_clock_57 ?_
      refine lv_iload_n hx hb dX6_clock_58 rfl (lv_at hl 0 rfl) ?_
      refine lv_iadd hx hb dX6_clock_59 ?_
      refine lv_aload_n hx hb dX6_clock_60 rfl (lv_at hl 3 rfl) ?_
      refine lv_bipush (v := 9) hx hb dX6_clock_61 (by decide) ?_
      refine x_goI (wn := MW g o ((mZ r), (mP r), (mK r), (mA r), (mB r), (mO r), (mM r), (mI r), (mY r), (mT r), ((figU (mB r) (mY r) 9 (figU (mB r) (mY r) 5 (wtM 0 (figU (mB r) (mY r) 9 (figU (mB r) (mY r) 2 (uM r)))))).1), ((figU (mB r) (mY r) 9 (figU (mB r) (mY r) 5 (wtM 0 (figU (mB r) (mY r) 9 (figU (mB r) (mY r) 2 (uM r)))))).2))) (x_rV (As := [.int 9]) X (c_X6_figure l g o ((mZ r), (mP r), (mK r), (mA r), (mB r), (mO r), (mM r), (mI r), (mY r), (mT r), ((figU (mB r) (mY r) 5 (wtM 0 (figU (mB r) (mY r) 9 (figU (mB r) (mY r) 2 (uM r))))).1), ((figU (mB r) (mY r) 5 (wtM 0 (figU (mB r) (mY r) 9 (figU (mB r) (mY r) 2 (uM r))))).2)) hy6 (show (figU (mB r) (mY r) 5 (wtM 0 (figU (mB r) (mY r) 9 (figU (mB r) (mY r) 2 (uM r))))).1 < 1000 from by have q1 := fig_le (mB r) (mY r) 2 (uM r); have q2 := fig_le (mB r) (mY r) 9 (figU (mB r) (mY r) 2 (uM r)); have q3 := wt_le 0 (figU (mB r) (mY r) 9 (figU (mB r) (mY r) 2 (uM r))); have q4 := fig_le (mB r) (mY r) 5 (wtM 0 (figU (mB r) (mY r) 9 (figU (mB r) (mY r) 2 (uM r)))); have q0 : (uM r).1 = mS r := rfl; omega) 9  _) yf_X6_figure yi_X6_figure wM_X6_148 ⟨Nat.le_of_ble_eq_true rfl, Nat.le_of_ble_eq_true rfl⟩ hP hD (p_all _) 0 rfl rfl hl rfl rfl (Nat.le_of_ble_eq_true rfl) dX6_clock_63 ⟨Nat.zero_le _, Nat.zero_le _⟩) hP hD hS hA (p_all _) (p_back _) (fun H locs hP hD hS => ?_)
      refine lv_iadd hx hb dX6_clock_66 ?_
      have e2 : ck2 (mB r) (mY r) (uM r) = figU (mB r) (mY r) 9 (ck1 (mB r) (mY r) (uM r)) := by unfold ck2; rw [show (if fgM (mB r) (mY r) (uM r).1 = 2 then (3 : Int32) else 9) = 9 from if_neg c_1]
      have e3 : ck3 (mB r) (mY r) (uM r) = wtM 0 (figU (mB r) (mY r) 9 (ck1 (mB r) (mY r) (uM r))) := by unfold ck3; rw [e2, show (if ltM (mB r) (mY r) (figU (mB r) (mY r) 9 (ck1 (mB r) (mY r) (uM r))).1 = 58 then (1 : Int32) else 0) = 0 from if_neg c_2]
      have E : (MW g o ((mZ r), (mP r), (mK r), (mA r), (mB r), (mO r), (mM r), (mI r), (mY r), (mT r), ((figU (mB r) (mY r) 9 (figU (mB r) (mY r) 5 (wtM 0 (figU (mB r) (mY r) 9 (figU (mB r) (mY r) 2 (uM r)))))).1), ((figU (mB r) (mY r) 9 (figU (mB r) (mY r) 5 (wtM 0 (figU (mB r) (mY r) 9 (figU (mB r) (mY r) 2 (uM r)))))).2)) : va_W) = MW g o (msu r (clkU (mB r) (mY r) (uM r))) := by (unfold clkU ck4; rw [e3]) <;> rfl
      exact x_iret X hr hlocks (pw E hP) (dw E hD) hS (by (unfold clkV ck4; rw [e3]) <;> rfl) dX6_clock_67
    · refine lv_iconst (v := 1) hx hb dX6_clock_37 (by decide) ?_
      refine lv_goto (tgt := 42) hx hb dX6_clock_38 (by decide) ?_
      refine x_goV (wn := MW g o ((mZ r), (mP r), (mK r), (mA r), (mB r), (mO r), (mM r), (mI r), (mY r), (mT r), ((wtM 1 (figU (mB r) (mY r) 9 (figU (mB r) (mY r) 2 (uM r)))).1), ((wtM 1 (figU (mB r) (mY r) 9 (figU (mB r) (mY r) 2 (uM r)))).2))) (x_rV (As := [.int 1]) X (c_X6_wants l g o ((mZ r), (mP r), (mK r), (mA r), (mB r), (mO r), (mM r), (mI r), (mY r), (mT r), ((figU (mB r) (mY r) 9 (figU (mB r) (mY r) 2 (uM r))).1), ((figU (mB r) (mY r) 9 (figU (mB r) (mY r) 2 (uM r))).2))  1 _) yf_X6_wants yi_X6_wants wM_X6_144 ⟨Nat.le_of_ble_eq_true rfl, Nat.le_of_ble_eq_true rfl⟩ hP hD (p_all _) 0 rfl rfl hl rfl rfl (Nat.le_of_ble_eq_true rfl) dX6_clock_42 ⟨Nat.zero_le _, Nat.zero_le _⟩) hP hD hS hA (p_all _) (p_back _) (fun H locs hP hD hS => ?_)
      refine lv_bipush (v := 10) hx hb dX6_clock_45 (by decide) ?_
      refine lv_aload_n hx hb dX6_clock_47 rfl (lv_at hl 2 rfl) ?_
      refine lv_iconst (v := 5) hx hb dX6_clock_48 (by decide) ?_
      refine x_goI (wn := MW g o ((mZ r), (mP r), (mK r), (mA r), (mB r), (mO r), (mM r), (mI r), (mY r), (mT r), ((figU (mB r) (mY r) 5 (wtM 1 (figU (mB r) (mY r) 9 (figU (mB r) (mY r) 2 (uM r))))).1), ((figU (mB r) (mY r) 5 (wtM 1 (figU (mB r) (mY r) 9 (figU (mB r) (mY r) 2 (uM r))))).2))) (x_rV (As := [.int 5]) X (c_X6_figure l g o ((mZ r), (mP r), (mK r), (mA r), (mB r), (mO r), (mM r), (mI r), (mY r), (mT r), ((wtM 1 (figU (mB r) (mY r) 9 (figU (mB r) (mY r) 2 (uM r)))).1), ((wtM 1 (figU (mB r) (mY r) 9 (figU (mB r) (mY r) 2 (uM r)))).2)) hy6 (show (wtM 1 (figU (mB r) (mY r) 9 (figU (mB r) (mY r) 2 (uM r)))).1 < 1000 from by have q1 := fig_le (mB r) (mY r) 2 (uM r); have q2 := fig_le (mB r) (mY r) 9 (figU (mB r) (mY r) 2 (uM r)); have q3 := wt_le 1 (figU (mB r) (mY r) 9 (figU (mB r) (mY r) 2 (uM r))); have q0 : (uM r).1 = mS r := rfl; omega) 5  _) yf_X6_figure yi_X6_figure wM_X6_148 ⟨Nat.le_of_ble_eq_true rfl, Nat.le_of_ble_eq_true rfl⟩ hP hD (p_all _) 0 rfl rfl hl rfl rfl (Nat.le_of_ble_eq_true rfl) dX6_clock_49 ⟨Nat.zero_le _, Nat.zero_le _⟩) hP hD hS hA (p_all _) (p_back _) (fun H locs hP hD hS => ?_)
      refine lv_imul hx hb dX6_clock_52 ?_
      refine lv_istore_n (lv' := [(3, .int (10 * (fgM (mB r) (mY r) (wtM 1 (figU (mB r) (mY r) 9 (figU (mB r) (mY r) 2 (uM r)))).1))), (2, .int ((10 * (fgM (mB r) (mY r) (mS r))) + (fgM (mB r) (mY r) (figU (mB r) (mY r) 2 (uM r)).1))), (1, .int (fgM (mB r) (mY r) (mS r))), (0, .ref (o 0))]) hx hb dX6_clock_53 rfl hl (by decide) rfl (fun ls hl => ?_)
      refine lv_bipush (v := 60) hx hb dX6_clock_54 (by decide) ?_
      refine lv_iload_n hx hb dX6_clock_56 rfl (lv_at hl 1 rfl) ?_
      refine lv_imul hx hb dX6_clock_57 ?_
      refine lv_iload_n hx hb dX6_clock_58 rfl (lv_at hl 0 rfl) ?_
      refine lv_iadd hx hb dX6_clock_59 ?_
      refine lv_aload_n hx hb dX6_clock_60 rfl (lv_at hl 3 rfl) ?_
      refine lv_bipush (v := 9) hx hb dX6_clock_61 (by decide) ?_
      refine x_goI (wn := MW g o ((mZ r), (mP r), (mK r), (mA r), (mB r), (mO r), (mM r), (mI r), (mY r), (mT r), ((figU (mB r) (mY r) 9 (figU (mB r) (mY r) 5 (wtM 1 (figU (mB r) (mY r) 9 (figU (mB r) (mY r) 2 (uM r)))))).1), ((figU (mB r) (mY r) 9 (figU (mB r) (mY r) 5 (wtM 1 (figU (mB r) (mY r) 9 (figU (mB r) (mY r) 2 (uM r)))))).2))) (x_rV (As := [.int 9]) X (c_X6_figure l g o ((mZ r), (mP r), (mK r), (mA r), (mB r), (mO r), (mM r), (mI r), (mY r), (mT r), ((figU (mB r) (mY r) 5 (wtM 1 (figU (mB r) (mY r) 9 (figU (mB r) (mY r) 2 (uM r))))).1), ((figU (mB r) (mY r) 5 (wtM 1 (figU (mB r) (mY r) 9 (figU (mB r) (mY r) 2 (uM r))))).2)) hy6 (show (figU (mB r) (mY r) 5 (wtM 1 (figU (mB r) (mY r) 9 (figU (mB r) (mY r) 2 (uM r))))).1 < 1000 from by have q1 := fig_le (mB r) (mY r) 2 (uM r); have q2 := fig_le (mB r) (mY r) 9 (figU (mB r) (mY r) 2 (uM r)); have q3 := wt_le 1 (figU (mB r) (mY r) 9 (figU (mB r) (mY r) 2 (uM r))); have q4 := fig_le (mB r) (mY r) 5 (wtM 1 (figU (mB r) (mY r) 9 (figU (mB r) (mY r) 2 (uM r)))); have q0 : (uM r).1 = mS r := rfl; omega) 9  _) yf_X6_figure yi_X6_figure wM_X6_148 ⟨Nat.le_of_ble_eq_true rfl, Nat.le_of_ble_eq_true rfl⟩ hP hD (p_all _) 0 rfl rfl hl rfl rfl (Nat.le_of_ble_eq_true rfl) dX6_clock_63 ⟨Nat.zero_le _, Nat.zero_le _⟩) hP hD hS hA (p_all _) (p_back _) (fun H locs hP hD hS => ?_)
      refine lv_iadd hx hb dX6_clock_66 ?_
      have e2 : ck2 (mB r) (mY r) (uM r) = figU (mB r) (mY r) 9 (ck1 (mB r) (mY r) (uM r)) := by unfold ck2; rw [show (if fgM (mB r) (mY r) (uM r).1 = 2 then (3 : Int32) else 9) = 9 from if_neg c_1]
      have e3 : ck3 (mB r) (mY r) (uM r) = wtM 1 (figU (mB r) (mY r) 9 (ck1 (mB r) (mY r) (uM r))) := by unfold ck3; rw [e2, show (if ltM (mB r) (mY r) (figU (mB r) (mY r) 9 (ck1 (mB r) (mY r) (uM r))).1 = 58 then (1 : Int32) else 0) = 1 from if_pos c_2]
      have E : (MW g o ((mZ r), (mP r), (mK r), (mA r), (mB r), (mO r), (mM r), (mI r), (mY r), (mT r), ((figU (mB r) (mY r) 9 (figU (mB r) (mY r) 5 (wtM 1 (figU (mB r) (mY r) 9 (figU (mB r) (mY r) 2 (uM r)))))).1), ((figU (mB r) (mY r) 9 (figU (mB r) (mY r) 5 (wtM 1 (figU (mB r) (mY r) 9 (figU (mB r) (mY r) 2 (uM r)))))).2)) : va_W) = MW g o (msu r (clkU (mB r) (mY r) (uM r))) := by (unfold clkU ck4; rw [e3]) <;> rfl
      exact x_iret X hr hlocks (pw E hP) (dw E hD) hS (by (unfold clkV ck4; rw [e3]) <;> rfl) dX6_clock_67
  · refine lv_iconst (v := 3) hx hb dX6_clock_16 (by decide) ?_
    refine lv_goto (tgt := 22) hx hb dX6_clock_17 (by decide) ?_
    refine x_goI (wn := MW g o ((mZ r), (mP r), (mK r), (mA r), (mB r), (mO r), (mM r), (mI r), (mY r), (mT r), ((figU (mB r) (mY r) 3 (figU (mB r) (mY r) 2 (uM r))).1), ((figU (mB r) (mY r) 3 (figU (mB r) (mY r) 2 (uM r))).2))) (x_rV (As := [.int 3]) X (c_X6_figure l g o ((mZ r), (mP r), (mK r), (mA r), (mB r), (mO r), (mM r), (mI r), (mY r), (mT r), ((figU (mB r) (mY r) 2 (uM r)).1), ((figU (mB r) (mY r) 2 (uM r)).2)) hy6 (show (figU (mB r) (mY r) 2 (uM r)).1 < 1000 from by have q1 := fig_le (mB r) (mY r) 2 (uM r); have q0 : (uM r).1 = mS r := rfl; omega) 3  _) yf_X6_figure yi_X6_figure wM_X6_148 ⟨Nat.le_of_ble_eq_true rfl, Nat.le_of_ble_eq_true rfl⟩ hP hD (p_all _) 0 rfl rfl hl rfl rfl (Nat.le_of_ble_eq_true rfl) dX6_clock_22 ⟨Nat.zero_le _, Nat.zero_le _⟩) hP hD hS hA (p_all _) (p_back _) (fun H locs hP hD hS => ?_)
    refine lv_iadd hx hb dX6_clock_25 ?_
    refine lv_istore_n (lv' := [(2, .int ((10 * (fgM (mB r) (mY r) (mS r))) + (fgM (mB r) (mY r) (figU (mB r) (mY r) 2 (uM r)).1))), (1, .int (fgM (mB r) (mY r) (mS r))), (0, .ref (o 0))]) hx hb dX6_clock_26 rfl hl (by decide) rfl (fun ls hl => ?_)
    refine lv_aload_n hx hb dX6_clock_27 rfl (lv_at hl 2 rfl) ?_
    refine lv_aload_n hx hb dX6_clock_28 rfl (lv_at hl 2 rfl) ?_
    refine x_goI (wn := MW g o ((mZ r), (mP r), (mK r), (mA r), (mB r), (mO r), (mM r), (mI r), (mY r), (mT r), ((figU (mB r) (mY r) 3 (figU (mB r) (mY r) 2 (uM r))).1), ((figU (mB r) (mY r) 3 (figU (mB r) (mY r) 2 (uM r))).2))) (x_rV (As := []) X (c_X6_letter l g o ((mZ r), (mP r), (mK r), (mA r), (mB r), (mO r), (mM r), (mI r), (mY r), (mT r), ((figU (mB r) (mY r) 3 (figU (mB r) (mY r) 2 (uM r))).1), ((figU (mB r) (mY r) 3 (figU (mB r) (mY r) 2 (uM r))).2)) hy6 (show (figU (mB r) (mY r) 3 (figU (mB r) (mY r) 2 (uM r))).1 < 2 ^ 31 from by have q1 := fig_le (mB r) (mY r) 2 (uM r); have q2 := fig_le (mB r) (mY r) 3 (figU (mB r) (mY r) 2 (uM r)); have q0 : (uM r).1 = mS r := rfl; omega)  _) yf_X6_letter yi_X6_letter wM_X6_141 ⟨Nat.le_of_ble_eq_true rfl, Nat.le_of_ble_eq_true rfl⟩ hP hD (p_all _) 0 rfl rfl hl rfl rfl (Nat.le_of_ble_eq_true rfl) dX6_clock_29 ⟨Nat.zero_le _, Nat.zero_le _⟩) hP hD hS hA (p_all _) (p_back _) (fun H locs hP hD hS => ?_)
    refine lv_bipush (v := 58) hx hb dX6_clock_32 (by decide) ?_
    refine lv_icmp_ne (tgt := 41) hx hb dX6_clock_34 (by decide) (fun (c_3 : ¬ (ltM (mB r) (mY r) (figU (mB r) (mY r) 3 (figU (mB r) (mY r) 2 (uM r))).1) = 58) => ?_) (fun (c_3 : (ltM (mB r) (mY r) (figU (mB r) (mY r) 3 (figU (mB r) (mY r) 2 (uM r))).1) = 58) => ?_)
    · refine lv_iconst (v := 0) hx hb dX6_clock_41 (by decide) ?_
      refine x_goV (wn := MW g o ((mZ r), (mP r), (mK r), (mA r), (mB r), (mO r), (mM r), (mI r), (mY r), (mT r), ((wtM 0 (figU (mB r) (mY r) 3 (figU (mB r) (mY r) 2 (uM r)))).1), ((wtM 0 (figU (mB r) (mY r) 3 (figU (mB r) (mY r) 2 (uM r)))).2))) (x_rV (As := [.int 0]) X (c_X6_wants l g o ((mZ r), (mP r), (mK r), (mA r), (mB r), (mO r), (mM r), (mI r), (mY r), (mT r), ((figU (mB r) (mY r) 3 (figU (mB r) (mY r) 2 (uM r))).1), ((figU (mB r) (mY r) 3 (figU (mB r) (mY r) 2 (uM r))).2))  0 _) yf_X6_wants yi_X6_wants wM_X6_144 ⟨Nat.le_of_ble_eq_true rfl, Nat.le_of_ble_eq_true rfl⟩ hP hD (p_all _) 0 rfl rfl hl rfl rfl (Nat.le_of_ble_eq_true rfl) dX6_clock_42 ⟨Nat.zero_le _, Nat.zero_le _⟩) hP hD hS hA (p_all _) (p_back _) (fun H locs hP hD hS => ?_)
      refine lv_bipush (v := 10) hx hb dX6_clock_45 (by decide) ?_
      refine lv_aload_n hx hb dX6_clock_47 rfl (lv_at hl 2 rfl) ?_
      refine lv_iconst (v := 5) hx hb dX6_clock_48 (by decide) ?_
      refine x_goI (wn := MW g o ((mZ r), (mP r), (mK r), (mA r), (mB r), (mO r), (mM r), (mI r), (mY r), (mT r), ((figU (mB r) (mY r) 5 (wtM 0 (figU (mB r) (mY r) 3 (figU (mB r) (mY r) 2 (uM r))))).1), ((figU (mB r) (mY r) 5 (wtM 0 (figU (mB r) (mY r) 3 (figU (mB r) (mY r) 2 (uM r))))).2))) (x_rV (As := [.int 5]) X (c_X6_figure l g o ((mZ r), (mP r), (mK r), (mA r), (mB r), (mO r), (mM r), (mI r), (mY r), (mT r), ((wtM 0 (figU (mB r) (mY r) 3 (figU (mB r) (mY r) 2 (uM r)))).1), ((wtM 0 (figU (mB r) (mY r) 3 (figU (mB r) (mY r) 2 (uM r)))).2)) hy6 (show (wtM 0 (figU (mB r) (mY r) 3 (figU (mB r) (mY r) 2 (uM r)))).1 < 1000 from by have q1 := fig_le (mB r) (mY r) 2 (uM r); have q2 := fig_le (mB r) (mY r) 3 (figU (mB r) (mY r) 2 (uM r)); have q3 := wt_le 0 (figU (mB r) (mY r) 3 (figU (mB r) (mY r) 2 (uM r))); have q0 : (uM r).1 = mS r := rfl; omega) 5  _) yf_X6_figure yi_X6_figure wM_X6_148 ⟨Nat.le_of_ble_eq_true rfl, Nat.le_of_ble_eq_true rfl⟩ hP hD (p_all _) 0 rfl rfl hl rfl rfl (Nat.le_of_ble_eq_true rfl) dX6_clock_49 ⟨Nat.zero_le _, Nat.zero_le _⟩) hP hD hS hA (p_all _) (p_back _) (fun H locs hP hD hS => ?_)
      refine lv_imul hx hb dX6_clock_52 ?_
      refine lv_istore_n (lv' := [(3, .int (10 * (fgM (mB r) (mY r) (wtM 0 (figU (mB r) (mY r) 3 (figU (mB r) (mY r) 2 (uM r)))).1))), (2, .int ((10 * (fgM (mB r) (mY r) (mS r))) + (fgM (mB r) (mY r) (figU (mB r) (mY r) 2 (uM r)).1))), (1, .int (fgM (mB r) (mY r) (mS r))), (0, .ref (o 0))]) hx hb dX6_clock_53 rfl hl (by decide) rfl (fun ls hl => ?_)
      refine lv_bipush (v := 60) hx hb dX6_clock_54 (by decide) ?_
      refine lv_iload_n hx hb dX6_clock_56 rfl (lv_at hl 1 rfl) ?_
      refine lv_imul hx hb dX6_clock_57 ?_
      refine lv_iload_n hx hb dX6_clock_58 rfl (lv_at hl 0 rfl) ?_
      refine lv_iadd hx hb dX6_clock_59 ?_
      refine lv_aload_n hx hb dX6_clock_60 rfl (lv_at hl 3 rfl) ?_
      refine lv_bipush (v := 9) hx hb dX6_clock_61 (by decide) ?_
      refine x_goI (wn := MW g o ((mZ r), (mP r), (mK r), (mA r), (mB r), (mO r), (mM r), (mI r), (mY r), (mT r), ((figU (mB r) (mY r) 9 (figU (mB r) (mY r) 5 (wtM 0 (figU (mB r) (mY r) 3 (figU (mB r) (mY r) 2 (uM r)))))).1), ((figU (mB r) (mY r) 9 (figU (mB r) (mY r) 5 (wtM 0 (figU (mB r) (mY r) 3 (figU (mB r) (mY r) 2 (uM r)))))).2))) (x_rV (As := [.int 9]) X (c_X6_figure l g o ((mZ r), (mP r), (mK r), (mA r), (mB r), (mO r), (mM r), (mI r), (mY r), (mT r), ((figU (mB r) (mY r) 5 (wtM 0 (figU (mB r) (mY r) 3 (figU (mB r) (mY r) 2 (uM r))))).1), ((figU (mB r) (mY r) 5 (wtM 0 (figU (mB r) (mY r) 3 (figU (mB r) (mY r) 2 (uM r))))).2)) hy6 (show (figU (mB r) (mY r) 5 (wtM 0 (figU (mB r) (mY r) 3 (figU (mB r) (mY r) 2 (uM r))))).1 < 1000 from by have q1 := fig_le (mB r) (mY r) 2 (uM r); have q2 := fig_le (mB r) (mY r) 3 (figU (mB r) (mY r) 2 (uM r)); have q3 := wt_le 0 (figU (mB r) (mY r) 3 (figU (mB r) (mY r) 2 (uM r))); have q4 := fig_le (mB r) (mY r) 5 (wtM 0 (figU (mB r) (mY r) 3 (figU (mB r) (mY r) 2 (uM r)))); have q0 : (uM r).1 = mS r := rfl; omega) 9  _) yf_X6_figure yi_X6_figure wM_X6_148 ⟨Nat.le_of_ble_eq_true rfl, Nat.le_of_ble_eq_true rfl⟩ hP hD (p_all _) 0 rfl rfl hl rfl rfl (Nat.le_of_ble_eq_true rfl) dX6_clock_63 ⟨Nat.zero_le _, Nat.zero_le _⟩) hP hD hS hA (p_all _) (p_back _) (fun H locs hP hD hS => ?_)
      refine lv_iadd hx hb dX6_clock_66 ?_
      have e2 : ck2 (mB r) (mY r) (uM r) = figU (mB r) (mY r) 3 (ck1 (mB r) (mY r) (uM r)) := by unfold ck2; rw [show (if fgM (mB r) (mY r) (uM r).1 = 2 then (3 : Int32) else 9) = 3 from if_pos c_1]
      have e3 : ck3 (mB r) (mY r) (uM r) = wtM 0 (figU (mB r) (mY r) 3 (ck1 (mB r) (mY r) (uM r))) := by unfold ck3; rw [e2, show (if ltM (mB r) (mY r) (figU (mB r) (mY r) 3 (ck1 (mB r) (mY r) (uM r))).1 = 58 then (1 : Int32) else 0) = 0 from if_neg c_3]
      have E : (MW g o ((mZ r), (mP r), (mK r), (mA r), (mB r), (mO r), (mM r), (mI r), (mY r), (mT r), ((figU (mB r) (mY r) 9 (figU (mB r) (mY r) 5 (wtM 0 (figU (mB r) (mY r) 3 (figU (mB r) (mY r) 2 (uM r)))))).1), ((figU (mB r) (mY r) 9 (figU (mB r) (mY r) 5 (wtM 0 (figU (mB r) (mY r) 3 (figU (mB r) (mY r) 2 (uM r)))))).2)) : va_W) = MW g o (msu r (clkU (mB r) (mY r) (uM r))) := by (unfold clkU ck4; rw [e3]) <;> rfl
      exact x_iret X hr hlocks (pw E hP) (dw E hD) hS (by (unfold clkV ck4; rw [e3]) <;> rfl) dX6_clock_67
    · refine lv_iconst (v := 1) hx hb dX6_clock_37 (by decide) ?_
      refine lv_goto (tgt := 42) hx hb dX6_clock_38 (by decide) ?_
      refine x_goV (wn := MW g o ((mZ r), (mP r), (mK r), (mA r), (mB r), (mO r), (mM r), (mI r), (mY r), (mT r), ((wtM 1 (figU (mB r) (mY r) 3 (figU (mB r) (mY r) 2 (uM r)))).1), ((wtM 1 (figU (mB r) (mY r) 3 (figU (mB r) (mY r) 2 (uM r)))).2))) (x_rV (As := [.int 1]) X (c_X6_wants l g o ((mZ r), (mP r), (mK r), (mA r), (mB r), (mO r), (mM r), (mI r), (mY r), (mT r), ((figU (mB r) (mY r) 3 (figU (mB r) (mY r) 2 (uM r))).1), ((figU (mB r) (mY r) 3 (figU (mB r) (mY r) 2 (uM r))).2))  1 _) yf_X6_wants yi_X6_wants wM_X6_144 ⟨Nat.le_of_ble_eq_true rfl, Nat.le_of_ble_eq_true rfl⟩ hP hD (p_all _) 0 rfl rfl hl rfl rfl (Nat.le_of_ble_eq_true rfl) dX6_clock_42 ⟨Nat.zero_le _, Nat.zero_le _⟩) hP hD hS hA (p_all _) (p_back _) (fun H locs hP hD hS => ?_)
      refine lv_bipush (v := 10) hx hb dX6_clock_45 (by decide) ?_
      refine lv_aload_n hx hb dX6_clock_47 rfl (lv_at hl 2 rfl) ?_
      refine lv_iconst (v := 5) hx hb dX6_clock_48 (by decide) ?_
      refine x_goI (wn := MW g o ((mZ r), (mP r), (mK r), (mA r), (mB r), (mO r), (mM r), (mI r), (mY r), (mT r), ((figU (mB r) (mY r) 5 (wtM 1 (figU (mB r) (mY r) 3 (figU (mB r) (mY r) 2 (uM r))))).1), ((figU (mB r) (mY r) 5 (wtM 1 (figU (mB r) (mY r) 3 (figU (mB r) (mY r) 2 (uM r))))).2))) (x_rV (As := [.int 5]) X (c_X6_figure l g o ((mZ r), (mP r), (mK r), (mA r), (mB r), (mO r), (mM r), (mI r), (mY r), (mT r), ((wtM 1 (figU (mB r) (mY r) 3 (figU (mB r) (mY r) 2 (uM r)))).1), ((wtM 1 (figU (mB r) (mY r) 3 (figU (mB r) (mY r) 2 (uM r)))).2)) hy6 (show (wtM 1 (figU (mB r) (mY r) 3 (figU (mB r) (mY r) 2 (uM r)))).1 < 1000 from by have q1 := fig_le (mB r) (mY r) 2 (uM r); have q2 := fig_le (mB r) (mY r) 3 (figU (mB r) (mY r) 2 (uM r)); have q3 := wt_le 1 (figU (mB r) (mY r) 3 (figU (mB r) (mY r) 2 (uM r))); have q0 : (uM r).1 = mS r := rfl; omega) 5  _) yf_X6_figure yi_X6_figure wM_X6_148 ⟨Nat.le_of_ble_eq_true rfl, Nat.le_of_ble_eq_true rfl⟩ hP hD (p_all _) 0 rfl rfl hl rfl rfl (Nat.le_of_ble_eq_true rfl) dX6_clock_49 ⟨Nat.zero_le _, Nat.zero_le _⟩) hP hD hS hA (p_all _) (p_back _) (fun H locs hP hD hS => ?_)
      refine lv_imul hx hb dX6_clock_52 ?_
      refine lv_istore_n (lv' := [(3, .int (10 * (fgM (mB r) (mY r) (wtM 1 (figU (mB r) (mY r) 3 (figU (mB r) (mY r) 2 (uM r)))).1))), (2, .int ((10 * (fgM (mB r) (mY r) (mS r))) + (fgM (mB r) (mY r) (figU (mB r) (mY r) 2 (uM r)).1))), (1, .int (fgM (mB r) (mY r) (mS r))), (0, .ref (o 0))]) hx hb dX6_clock_53 rfl hl (by decide) rfl (fun ls hl => ?_)
      refine lv_bipush (v := 60) hx hb dX6_clock_54 (by decide) ?_
      refine lv_iload_n hx hb dX6_clock_56 rfl (lv_at hl 1 rfl) ?_
      refine lv_imul hx hb dX6_clock_57 ?_
      refine lv_iload_n hx hb dX6_clock_58 rfl (lv_at hl 0 rfl) ?_
      refine lv_iadd hx hb dX6_clock_59 ?_
      refine lv_aload_n hx hb dX6_clock_60 rfl (lv_at hl 3 rfl) ?_
      refine lv_bipush (v := 9) hx hb dX6_clock_61 (by decide) ?_
      refine x_goI (wn := MW g o ((mZ r), (mP r), (mK r), (mA r), (mB r), (mO r), (mM r), (mI r), (mY r), (mT r), ((figU (mB r) (mY r) 9 (figU (mB r) (mY r) 5 (wtM 1 (figU (mB r) (mY r) 3 (figU (mB r) (mY r) 2 (uM r)))))).1), ((figU (mB r) (mY r) 9 (figU (mB r) (mY r) 5 (wtM 1 (figU (mB r) (mY r) 3 (figU (mB r) (mY r) 2 (uM r)))))).2))) (x_rV (As := [.int 9]) X (c_X6_figure l g o ((mZ r), (mP r), (mK r), (mA r), (mB r), (mO r), (mM r), (mI r), (mY r), (mT r), ((figU (mB r) (mY r) 5 (wtM 1 (figU (mB r) (mY r) 3 (figU (mB r) (mY r) 2 (uM r))))).1), ((figU (mB r) (mY r) 5 (wtM 1 (figU (mB r) (mY r) 3 (figU (mB r) (mY r) 2 (uM r))))).2)) hy6 (show (figU (mB r) (mY r) 5 (wtM 1 (figU (mB r) (mY r) 3 (figU (mB r) (mY r) 2 (uM r))))).1 < 1000 from by have q1 := fig_le (mB r) (mY r) 2 (uM r); have q2 := fig_le (mB r) (mY r) 3 (figU (mB r) (mY r) 2 (uM r)); have q3 := wt_le 1 (figU (mB r) (mY r) 3 (figU (mB r) (mY r) 2 (uM r))); have q4 := fig_le (mB r) (mY r) 5 (wtM 1 (figU (mB r) (mY r) 3 (figU (mB r) (mY r) 2 (uM r)))); have q0 : (uM r).1 = mS r := rfl; omega) 9  _) yf_X6_figure yi_X6_figure wM_X6_148 ⟨Nat.le_of_ble_eq_true rfl, Nat.le_of_ble_eq_true rfl⟩ hP hD (p_all _) 0 rfl rfl hl rfl rfl (Nat.le_of_ble_eq_true rfl) dX6_clock_63 ⟨Nat.zero_le _, Nat.zero_le _⟩) hP hD hS hA (p_all _) (p_back _) (fun H locs hP hD hS => ?_)
      refine lv_iadd hx hb dX6_clock_66 ?_
      have e2 : ck2 (mB r) (mY r) (uM r) = figU (mB r) (mY r) 3 (ck1 (mB r) (mY r) (uM r)) := by unfold ck2; rw [show (if fgM (mB r) (mY r) (uM r).1 = 2 then (3 : Int32) else 9) = 3 from if_pos c_1]
      have e3 : ck3 (mB r) (mY r) (uM r) = wtM 1 (figU (mB r) (mY r) 3 (ck1 (mB r) (mY r) (uM r))) := by unfold ck3; rw [e2, show (if ltM (mB r) (mY r) (figU (mB r) (mY r) 3 (ck1 (mB r) (mY r) (uM r))).1 = 58 then (1 : Int32) else 0) = 1 from if_pos c_3]
      have E : (MW g o ((mZ r), (mP r), (mK r), (mA r), (mB r), (mO r), (mM r), (mI r), (mY r), (mT r), ((figU (mB r) (mY r) 9 (figU (mB r) (mY r) 5 (wtM 1 (figU (mB r) (mY r) 3 (figU (mB r) (mY r) 2 (uM r)))))).1), ((figU (mB r) (mY r) 9 (figU (mB r) (mY r) 5 (wtM 1 (figU (mB r) (mY r) 3 (figU (mB r) (mY r) 2 (uM r)))))).2)) : va_W) = MW g o (msu r (clkU (mB r) (mY r) (uM r))) := by (unfold clkU ck4; rw [e3]) <;> rfl
      exact x_iret X hr hlocks (pw E hP) (dw E hD) hS (by (unfold clkV ck4; rw [e3]) <;> rfl) dX6_clock_67

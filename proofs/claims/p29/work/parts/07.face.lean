def isw (v a b : Int32) : Int32 := if v < a then 0 else if b < v then 0 else 1
set_option maxHeartbeats 4000000 in
set_option maxRecDepth 100000 in
theorem c_X5_isWithin (l : Launch) (g : wG) (v a b : Int32) : CtI l g 0 yX5_isWithin cX5_isWithin 3 (some .boolean) [.int v, .int a, .int b] ([]) (isw v a b) ([]) := by
  intro sz
  refine x_enter (Qc := fun A => QI g A (isw v a b) ([])) (by decide) (Nat.le_of_ble_eq_true rfl) ?_
  intro p e s m args below meth c X hr hlocks A hA hP hD hS ls hl
  obtain ⟨⟨hx, hb, hml, hown, hts⟩, hK, hN⟩ := id X
  have hl : lv_has ls 3 [(0, .int v), (1, .int a), (2, .int b)] := hl
  refine lv_iload_n hx hb dX5_isWithin_0 rfl (lv_at hl 0 rfl) ?_
  refine lv_iload_n hx hb dX5_isWithin_1 rfl (lv_at hl 1 rfl) ?_
  refine lv_icmp_lt (tgt := 14) hx hb dX5_isWithin_2 (by decide) (fun (c_1 : v < a) => ?_) (fun (c_1 : ¬ v < a) => ?_)
  · refine lv_iconst (v := 0) hx hb dX5_isWithin_14 (by decide) ?_
    exact x_zret X hr hlocks rfl hP hD hS (by simp only [isw, if_pos c_1]) dX5_isWithin_15
  · refine lv_iload_n hx hb dX5_isWithin_5 rfl (lv_at hl 0 rfl) ?_
    refine lv_iload_n hx hb dX5_isWithin_6 rfl (lv_at hl 2 rfl) ?_
    refine lv_icmp_gt (tgt := 14) hx hb dX5_isWithin_7 (by decide) (fun (c_2 : b < v) => ?_) (fun (c_2 : ¬ b < v) => ?_)
    · refine lv_iconst (v := 0) hx hb dX5_isWithin_14 (by decide) ?_
      exact x_zret X hr hlocks rfl hP hD hS (by simp only [isw, if_neg c_1, if_pos c_2]) dX5_isWithin_15
    · refine lv_iconst (v := 1) hx hb dX5_isWithin_10 (by decide) ?_
      refine lv_goto (tgt := 15) hx hb dX5_isWithin_11 (by decide) ?_
      exact x_zret X hr hlocks rfl hP hD hS (by simp only [isw, if_neg c_1, if_neg c_2]) dX5_isWithin_15

theorem isw_b (v a b : Int32) : narrow .boolean (.int (isw v a b)) = .int (isw v a b) ∧ fits .boolean (.int (isw v a b)) = true := by
  unfold isw; split <;> (try split) <;> exact ⟨rfl, rfl⟩
def isset (v : Int32) : Int32 := isw v 0 2
set_option maxHeartbeats 4000000 in
set_option maxRecDepth 100000 in
theorem c_X5_isSetting (l : Launch) (g : wG) (v : Int32) : CtI l g 1 yX5_isSetting cX5_isSetting 1 (some .boolean) [.int v] ([]) (isset v) ([]) := by
  intro sz
  refine x_enter (Qc := fun A => QI g A (isset v) ([])) (by decide) (Nat.le_of_ble_eq_true rfl) ?_
  intro p e s m args below meth c X hr hlocks A hA hP hD hS ls hl
  obtain ⟨⟨hx, hb, hml, hown, hts⟩, hK, hN⟩ := id X
  have hl : lv_has ls 1 [(0, .int v)] := hl
  refine lv_iload_n hx hb dX5_isSetting_0 rfl (lv_at hl 0 rfl) ?_
  refine lv_iconst (v := 0) hx hb dX5_isSetting_1 (by decide) ?_
  refine lv_iconst (v := 2) hx hb dX5_isSetting_2 (by decide) ?_
  refine x_goI (wn := []) (x_rS (As := [.int v, .int 0, .int 2]) X (c_X5_isWithin l g v 0 2 _) yf_X5_isWithin ys_X5_isWithin wM_X5_47 ⟨Nat.le_of_ble_eq_true rfl, Nat.le_of_ble_eq_true rfl⟩ hP hD (p_none _) hl rfl rfl (Nat.le_of_ble_eq_true rfl) dX5_isSetting_3 ⟨Nat.zero_le _, Nat.zero_le _⟩) hP hD hS hA (p_none _) (p_noneB _) (fun H locs hP hD hS => ?_)
  exact x_zret X hr hlocks (isw_b _ _ _).1 hP hD hS rfl dX5_isSetting_6

def distC (a b : Int32) : Int32 := jmin (jabs (a - b)) (720 - jabs (a - b))
set_option maxHeartbeats 4000000 in
set_option maxRecDepth 100000 in
theorem c_X5_distance (l : Launch) (g : wG) (a b : Int32) : CtI l g 1 yX5_distance cX5_distance 3 (some .int) [.int a, .int b] ([]) (distC a b) ([]) := by
  intro sz
  refine x_enter (Qc := fun A => QI g A (distC a b) ([])) (by decide) (Nat.le_of_ble_eq_true rfl) ?_
  intro p e s m args below meth c X hr hlocks A hA hP hD hS ls hl
  obtain ⟨⟨hx, hb, hml, hown, hts⟩, hK, hN⟩ := id X
  have hl : lv_has ls 3 [(0, .int a), (1, .int b)] := hl
  refine lv_iload_n hx hb dX5_distance_0 rfl (lv_at hl 0 rfl) ?_
  refine lv_iload_n hx hb dX5_distance_1 rfl (lv_at hl 1 rfl) ?_
  refine lv_isub hx hb dX5_distance_2 ?_
  refine x_abs X hl wM_X5_243 mk_abs wI_RJ9 ⟨Nat.le_of_ble_eq_true rfl, Nat.le_of_ble_eq_true rfl⟩ ⟨Nat.zero_le _, Nat.zero_le _⟩ dX5_distance_3 ?_
  refine lv_istore_n (lv' := [(2, .int (jabs (a - b))), (0, .int a), (1, .int b)]) hx hb dX5_distance_6 rfl hl (by decide) rfl (fun ls hl => ?_)
  refine lv_iload_n hx hb dX5_distance_7 rfl (lv_at hl 0 rfl) ?_
  refine lv_sipush (v := 720) hx hb dX5_distance_8 (by decide) ?_
  refine lv_iload_n hx hb dX5_distance_11 rfl (lv_at hl 0 rfl) ?_
  refine lv_isub hx hb dX5_distance_12 ?_
  refine x_min X hl wM_X5_248 mk_min wI_RJ9 ⟨Nat.le_of_ble_eq_true rfl, Nat.le_of_ble_eq_true rfl⟩ ⟨Nat.zero_le _, Nat.zero_le _⟩ dX5_distance_13 ?_
  exact x_iret X hr hlocks hP hD hS rfl dX5_distance_16

def strC (d : Int32) : Int32 := if 60 ≤ d then d / 60 else 12
set_option maxHeartbeats 4000000 in
set_option maxRecDepth 100000 in
theorem c_X5_strikesAt (l : Launch) (g : wG) (dd : Int32) : CtI l g 0 yX5_strikesAt cX5_strikesAt 1 (some .int) [.int dd] ([]) (strC dd) ([]) := by
  intro sz
  refine x_enter (Qc := fun A => QI g A (strC dd) ([])) (by decide) (Nat.le_of_ble_eq_true rfl) ?_
  intro p e s m args below meth c X hr hlocks A hA hP hD hS ls hl
  obtain ⟨⟨hx, hb, hml, hown, hts⟩, hK, hN⟩ := id X
  have hl : lv_has ls 1 [(0, .int dd)] := hl
  refine lv_iload_n hx hb dX5_strikesAt_0 rfl (lv_at hl 0 rfl) ?_
  refine lv_bipush (v := 60) hx hb dX5_strikesAt_1 (by decide) ?_
  refine lv_icmp_ge (tgt := 11) hx hb dX5_strikesAt_3 (by decide) (fun (c_1 : 60 ≤ dd) => ?_) (fun (c_1 : ¬ 60 ≤ dd) => ?_)
  · refine lv_iload_n hx hb dX5_strikesAt_11 rfl (lv_at hl 0 rfl) ?_
    refine lv_bipush (v := 60) hx hb dX5_strikesAt_12 (by decide) ?_
    refine lv_idiv hx hb dX5_strikesAt_14 (by decide) ?_
    exact x_iret X hr hlocks hP hD hS (by simp only [strC, if_pos c_1]) dX5_strikesAt_15
  · refine lv_bipush (v := 12) hx hb dX5_strikesAt_6 (by decide) ?_
    refine lv_goto (tgt := 15) hx hb dX5_strikesAt_8 (by decide) ?_
    exact x_iret X hr hlocks hP hD hS (by simp only [strC, if_neg c_1]) dX5_strikesAt_15

set_option maxHeartbeats 4000000 in
set_option maxRecDepth 100000 in
theorem c_X0_takeOil (l : Launch) (g : wG) (a : Nat) (d0 tt s0 w0 sl bl st : Int32) : CtV l g 1 yX0_takeOil cX0_takeOil 1 none [.ref a] ([(a, .inr (0, [.int d0, .int tt, .int s0, .int w0, .int sl, .int bl, .int st]))]) ([(a, .inr (0, [.int d0, .int tt, .int 0, .int (jmax (w0 - 1) 0), .int sl, .int bl, .int st]))]) := by
  intro sz
  refine x_enter (Qc := fun A => QV g A ([(a, .inr (0, [.int d0, .int tt, .int 0, .int (jmax (w0 - 1) 0), .int sl, .int bl, .int st]))])) (by decide) (Nat.le_of_ble_eq_true rfl) ?_
  intro p e s m args below meth c X hr hlocks A hA hP hD hS ls hl
  obtain ⟨⟨hx, hb, hml, hown, hts⟩, hK, hN⟩ := id X
  have hl : lv_has ls 1 [(0, .ref a)] := hl
  refine lv_aload_n hx hb dX0_takeOil_0 rfl (lv_at hl 0 rfl) ?_
  refine lv_aload_n hx hb dX0_takeOil_1 rfl (lv_at hl 0 rfl) ?_
  refine x_get (v := .int w0) X 0 3 in_X0 hP rfl rfl (by decide) wF_X0_25 rfl rfl dX0_takeOil_2 ?_
  refine lv_iconst (v := 1) hx hb dX0_takeOil_5 (by decide) ?_
  refine lv_isub hx hb dX0_takeOil_6 ?_
  refine lv_iconst (v := 0) hx hb dX0_takeOil_7 (by decide) ?_
  refine x_max X hl wM_X0_34 mk_max wI_RJ9 ⟨Nat.le_of_ble_eq_true rfl, Nat.le_of_ble_eq_true rfl⟩ ⟨Nat.zero_le _, Nat.zero_le _⟩ dX0_takeOil_8 ?_
  refine x_put (v := .int (jmax (w0 - 1) 0)) (ty0 := tyX0) (ws2 := [(a, .inr (0, [.int d0, .int tt, .int s0, .int (jmax (w0 - 1) 0), .int sl, .int bl, .int st]))]) X 0 3 in_X0 tyX0_ok nmX0 hP hD hS rfl rfl (by decide) wF_X0_25 rfl rfl rfl rfl (Nat.le_of_ble_eq_true rfl) rfl dX0_takeOil_11 (fun H locs hP hD hS => ?_)
  refine lv_aload_n hx hb dX0_takeOil_14 rfl (lv_at hl 0 rfl) ?_
  refine lv_iconst (v := 0) hx hb dX0_takeOil_15 (by decide) ?_
  refine x_put (v := .int 0) (ty0 := tyX0) (ws2 := [(a, .inr (0, [.int d0, .int tt, .int 0, .int (jmax (w0 - 1) 0), .int sl, .int bl, .int st]))]) X 0 2 in_X0 tyX0_ok nmX0 hP hD hS rfl rfl (by decide) wF_X0_22 rfl rfl rfl rfl (Nat.le_of_ble_eq_true rfl) rfl dX0_takeOil_16 (fun H locs hP hD hS => ?_)
  exact x_vret X hr hlocks hP hD hS dX0_takeOil_19

def toH (d : Int32) : Int32 := 60 - jrem d 60
set_option maxHeartbeats 4000000 in
set_option maxRecDepth 100000 in
theorem c_X0_minutesToHour (l : Launch) (g : wG) (a : Nat) (d0 tt s0 w0 sl bl st : Int32) : CtI l g 1 yX0_minutesToHour cX0_minutesToHour 1 (some .int) [.ref a] ([(a, .inr (0, [.int d0, .int tt, .int s0, .int w0, .int sl, .int bl, .int st]))]) (toH d0) ([(a, .inr (0, [.int d0, .int tt, .int s0, .int w0, .int sl, .int bl, .int st]))]) := by
  intro sz
  refine x_enter (Qc := fun A => QI g A (toH d0) ([(a, .inr (0, [.int d0, .int tt, .int s0, .int w0, .int sl, .int bl, .int st]))])) (by decide) (Nat.le_of_ble_eq_true rfl) ?_
  intro p e s m args below meth c X hr hlocks A hA hP hD hS ls hl
  obtain ⟨⟨hx, hb, hml, hown, hts⟩, hK, hN⟩ := id X
  have hl : lv_has ls 1 [(0, .ref a)] := hl
  refine lv_bipush (v := 60) hx hb dX0_minutesToHour_0 (by decide) ?_
  refine lv_aload_n hx hb dX0_minutesToHour_2 rfl (lv_at hl 0 rfl) ?_
  refine x_get (v := .int d0) X 0 0 in_X0 hP rfl rfl (by decide) wF_X0_19 rfl rfl dX0_minutesToHour_3 ?_
  refine lv_bipush (v := 60) hx hb dX0_minutesToHour_6 (by decide) ?_
  refine lv_irem hx hb dX0_minutesToHour_8 (by decide) ?_
  refine lv_isub hx hb dX0_minutesToHour_9 ?_
  exact x_iret X hr hlocks hP hD hS rfl dX0_minutesToHour_10

def slS (tt s : Int32) : Int32 := s - 10 * tt
def slW (w sl : Int32) : Int32 := if jrem (sl + 1) 3 = 0 then jmin (w + 1) 9 else w
set_option maxHeartbeats 4000000 in
set_option maxRecDepth 100000 in
theorem c_X0_slip (l : Launch) (g : wG) (a : Nat) (d0 tt s0 w0 sl bl st : Int32) : CtV l g 1 yX0_slip cX0_slip 1 none [.ref a] ([(a, .inr (0, [.int d0, .int tt, .int s0, .int w0, .int sl, .int bl, .int st]))]) ([(a, .inr (0, [.int d0, .int tt, .int (slS tt s0), .int (slW w0 sl), .int (sl + 1), .int bl, .int st]))]) := by
  intro sz
  refine x_enter (Qc := fun A => QV g A ([(a, .inr (0, [.int d0, .int tt, .int (slS tt s0), .int (slW w0 sl), .int (sl + 1), .int bl, .int st]))])) (by decide) (Nat.le_of_ble_eq_true rfl) ?_
  intro p e s m args below meth c X hr hlocks A hA hP hD hS ls hl
  obtain ⟨⟨hx, hb, hml, hown, hts⟩, hK, hN⟩ := id X
  have hl : lv_has ls 1 [(0, .ref a)] := hl
  refine lv_aload_n hx hb dX0_slip_0 rfl (lv_at hl 0 rfl) ?_
  refine lv_dup hx hb dX0_slip_1 rfl ?_
  refine x_get (v := .int s0) X 0 2 in_X0 hP rfl rfl (by decide) wF_X0_22 rfl rfl dX0_slip_2 ?_
  refine lv_bipush (v := 10) hx hb dX0_slip_5 (by decide) ?_
  refine lv_aload_n hx hb dX0_slip_7 rfl (lv_at hl 0 rfl) ?_
  refine x_get (v := .int tt) X 0 1 in_X0 hP rfl rfl (by decide) wF_X0_9 rfl rfl dX0_slip_8 ?_
  refine lv_imul hx hb dX0_slip_11 ?_
  refine lv_isub hx hb dX0_slip_12 ?_
  refine x_put (v := .int (s0 - (10 * tt))) (ty0 := tyX0) (ws2 := [(a, .inr (0, [.int d0, .int tt, .int (s0 - (10 * tt)), .int w0, .int sl, .int bl, .int st]))]) X 0 2 in_X0 tyX0_ok nmX0 hP hD hS rfl rfl (by decide) wF_X0_22 rfl rfl rfl rfl (Nat.le_of_ble_eq_true rfl) rfl dX0_slip_13 (fun H locs hP hD hS => ?_)
  refine lv_aload_n hx hb dX0_slip_16 rfl (lv_at hl 0 rfl) ?_
  refine lv_dup hx hb dX0_slip_17 rfl ?_
  refine x_get (v := .int sl) X 0 4 in_X0 hP rfl rfl (by decide) wF_X0_28 rfl rfl dX0_slip_18 ?_
  refine lv_iconst (v := 1) hx hb dX0_slip_21 (by decide) ?_
  refine lv_iadd hx hb dX0_slip_22 ?_
  refine x_put (v := .int (sl + 1)) (ty0 := tyX0) (ws2 := [(a, .inr (0, [.int d0, .int tt, .int (s0 - (10 * tt)), .int w0, .int (sl + 1), .int bl, .int st]))]) X 0 4 in_X0 tyX0_ok nmX0 hP hD hS rfl rfl (by decide) wF_X0_28 rfl rfl rfl rfl (Nat.le_of_ble_eq_true rfl) rfl dX0_slip_23 (fun H locs hP hD hS => ?_)
  refine lv_aload_n hx hb dX0_slip_26 rfl (lv_at hl 0 rfl) ?_
  refine x_get (v := .int (sl + 1)) X 0 4 in_X0 hP rfl rfl (by decide) wF_X0_28 rfl rfl dX0_slip_27 ?_
  refine lv_iconst (v := 3) hx hb dX0_slip_30 (by decide) ?_
  refine lv_irem hx hb dX0_slip_31 (by decide) ?_
  refine lv_if_ne (tgt := 50) hx hb dX0_slip_32 (by decide) (fun (c_1 : ¬ (jrem (sl + 1) 3) = 0) => ?_) (fun (c_1 : (jrem (sl + 1) 3) = 0) => ?_)
  · have E : ([(a, .inr (0, [.int d0, .int tt, .int (s0 - (10 * tt)), .int w0, .int (sl + 1), .int bl, .int st]))] : va_W) = ([(a, .inr (0, [.int d0, .int tt, .int (slS tt s0), .int (slW w0 sl), .int (sl + 1), .int bl, .int st]))]) := by simp only [slS, slW, if_neg c_1]
    exact x_vret X hr hlocks (pw E hP) (dw E hD) hS dX0_slip_50
  · refine lv_aload_n hx hb dX0_slip_35 rfl (lv_at hl 0 rfl) ?_
    refine lv_aload_n hx hb dX0_slip_36 rfl (lv_at hl 0 rfl) ?_
    refine x_get (v := .int w0) X 0 3 in_X0 hP rfl rfl (by decide) wF_X0_25 rfl rfl dX0_slip_37 ?_
    refine lv_iconst (v := 1) hx hb dX0_slip_40 (by decide) ?_
    refine lv_iadd hx hb dX0_slip_41 ?_
    refine lv_bipush (v := 9) hx hb dX0_slip_42 (by decide) ?_
    refine x_min X hl wM_X0_47 mk_min wI_RJ9 ⟨Nat.le_of_ble_eq_true rfl, Nat.le_of_ble_eq_true rfl⟩ ⟨Nat.zero_le _, Nat.zero_le _⟩ dX0_slip_44 ?_
    refine x_put (v := .int (jmin (w0 + 1) 9)) (ty0 := tyX0) (ws2 := [(a, .inr (0, [.int d0, .int tt, .int (s0 - (10 * tt)), .int (jmin (w0 + 1) 9), .int (sl + 1), .int bl, .int st]))]) X 0 3 in_X0 tyX0_ok nmX0 hP hD hS rfl rfl (by decide) wF_X0_25 rfl rfl rfl rfl (Nat.le_of_ble_eq_true rfl) rfl dX0_slip_47 (fun H locs hP hD hS => ?_)
    have E : ([(a, .inr (0, [.int d0, .int tt, .int (s0 - (10 * tt)), .int (jmin (w0 + 1) 9), .int (sl + 1), .int bl, .int st]))] : va_W) = ([(a, .inr (0, [.int d0, .int tt, .int (slS tt s0), .int (slW w0 sl), .int (sl + 1), .int bl, .int st]))]) := by simp only [slS, slW, if_pos c_1]
    exact x_vret X hr hlocks (pw E hP) (dw E hD) hS dX0_slip_50

def fpD (ld d tt s w : Int32) : Int32 := if s + (ld + w) < 10 * tt then jrem (d + 1) 720 else d
def fpS (ld tt s w : Int32) : Int32 := if s + (ld + w) < 10 * tt then s + (ld + w) else slS tt (s + (ld + w))
def fpW (ld tt s w sl : Int32) : Int32 := if s + (ld + w) < 10 * tt then w else slW w sl
def fpL (ld tt s w sl : Int32) : Int32 := if s + (ld + w) < 10 * tt then sl else sl + 1
def fpT (ld d tt s w bl st : Int32) : Int32 := if s + (ld + w) < 10 * tt then (if bl = 0 then st else if jrem (jrem (d + 1) 720) 60 = 0 then st + strC (jrem (d + 1) 720) else st) else st
def fpR (ld d tt s w bl : Int32) : Int32 := if s + (ld + w) < 10 * tt then (if bl = 0 then 0 else if jrem (jrem (d + 1) 720) 60 = 0 then strC (jrem (d + 1) 720) else 0) else 0
set_option maxHeartbeats 4000000 in
set_option maxRecDepth 100000 in
theorem c_X0_passMinute (l : Launch) (g : wG) (a : Nat) (d0 tt s0 w0 sl bl st : Int32) (ld : Int32) : CtI l g 2 yX0_passMinute cX0_passMinute 3 (some .int) [.ref a, .int ld] ([(a, .inr (0, [.int d0, .int tt, .int s0, .int w0, .int sl, .int bl, .int st]))]) (fpR ld d0 tt s0 w0 bl) ([(a, .inr (0, [.int (fpD ld d0 tt s0 w0), .int tt, .int (fpS ld tt s0 w0), .int (fpW ld tt s0 w0 sl), .int (fpL ld tt s0 w0 sl), .int bl, .int (fpT ld d0 tt s0 w0 bl st)]))]) := by
  intro sz
  refine x_enter (Qc := fun A => QI g A (fpR ld d0 tt s0 w0 bl) ([(a, .inr (0, [.int (fpD ld d0 tt s0 w0), .int tt, .int (fpS ld tt s0 w0), .int (fpW ld tt s0 w0 sl), .int (fpL ld tt s0 w0 sl), .int bl, .int (fpT ld d0 tt s0 w0 bl st)]))])) (by decide) (Nat.le_of_ble_eq_true rfl) ?_
  intro p e s m args below meth c X hr hlocks A hA hP hD hS ls hl
  obtain ⟨⟨hx, hb, hml, hown, hts⟩, hK, hN⟩ := id X
  have hl : lv_has ls 3 [(0, .ref a), (1, .int ld)] := hl
  refine lv_aload_n hx hb dX0_passMinute_0 rfl (lv_at hl 0 rfl) ?_
  refine lv_dup hx hb dX0_passMinute_1 rfl ?_
  refine x_get (v := .int s0) X 0 2 in_X0 hP rfl rfl (by decide) wF_X0_22 rfl rfl dX0_passMinute_2 ?_
  refine lv_iload_n hx hb dX0_passMinute_5 rfl (lv_at hl 1 rfl) ?_
  refine lv_aload_n hx hb dX0_passMinute_6 rfl (lv_at hl 0 rfl) ?_
  refine x_get (v := .int w0) X 0 3 in_X0 hP rfl rfl (by decide) wF_X0_25 rfl rfl dX0_passMinute_7 ?_
  refine lv_iadd hx hb dX0_passMinute_10 ?_
  refine lv_iadd hx hb dX0_passMinute_11 ?_
  refine x_put (v := .int (s0 + (ld + w0))) (ty0 := tyX0) (ws2 := [(a, .inr (0, [.int d0, .int tt, .int (s0 + (ld + w0)), .int w0, .int sl, .int bl, .int st]))]) X 0 2 in_X0 tyX0_ok nmX0 hP hD hS rfl rfl (by decide) wF_X0_22 rfl rfl rfl rfl (Nat.le_of_ble_eq_true rfl) rfl dX0_passMinute_12 (fun H locs hP hD hS => ?_)
  refine lv_aload_n hx hb dX0_passMinute_15 rfl (lv_at hl 0 rfl) ?_
  refine x_get (v := .int (s0 + (ld + w0))) X 0 2 in_X0 hP rfl rfl (by decide) wF_X0_22 rfl rfl dX0_passMinute_16 ?_
  refine lv_bipush (v := 10) hx hb dX0_passMinute_19 (by decide) ?_
  refine lv_aload_n hx hb dX0_passMinute_21 rfl (lv_at hl 0 rfl) ?_
  refine x_get (v := .int tt) X 0 1 in_X0 hP rfl rfl (by decide) wF_X0_9 rfl rfl dX0_passMinute_22 ?_
  refine lv_imul hx hb dX0_passMinute_25 ?_
  refine lv_icmp_lt (tgt := 35) hx hb dX0_passMinute_26 (by decide) (fun (c_1 : (s0 + (ld + w0)) < (10 * tt)) => ?_) (fun (c_1 : ¬ (s0 + (ld + w0)) < (10 * tt)) => ?_)
  · refine lv_aload_n hx hb dX0_passMinute_35 rfl (lv_at hl 0 rfl) ?_
    refine lv_aload_n hx hb dX0_passMinute_36 rfl (lv_at hl 0 rfl) ?_
    refine x_get (v := .int d0) X 0 0 in_X0 hP rfl rfl (by decide) wF_X0_19 rfl rfl dX0_passMinute_37 ?_
    refine lv_iconst (v := 1) hx hb dX0_passMinute_40 (by decide) ?_
    refine lv_iadd hx hb dX0_passMinute_41 ?_
    refine lv_sipush (v := 720) hx hb dX0_passMinute_42 (by decide) ?_
    refine lv_irem hx hb dX0_passMinute_45 (by decide) ?_
    refine x_put (v := .int (jrem (d0 + 1) 720)) (ty0 := tyX0) (ws2 := [(a, .inr (0, [.int (jrem (d0 + 1) 720), .int tt, .int (s0 + (ld + w0)), .int w0, .int sl, .int bl, .int st]))]) X 0 0 in_X0 tyX0_ok nmX0 hP hD hS rfl rfl (by decide) wF_X0_19 rfl rfl rfl rfl (Nat.le_of_ble_eq_true rfl) rfl dX0_passMinute_46 (fun H locs hP hD hS => ?_)
    refine lv_aload_n hx hb dX0_passMinute_49 rfl (lv_at hl 0 rfl) ?_
    refine x_get (v := .int bl) X 0 5 in_X0 hP rfl rfl (by decide) wF_X0_15 rfl rfl dX0_passMinute_50 ?_
    refine lv_if_eq (tgt := 66) hx hb dX0_passMinute_53 (by decide) (fun (c_2 : bl = 0) => ?_) (fun (c_2 : ¬ bl = 0) => ?_)
    · refine lv_iconst (v := 0) hx hb dX0_passMinute_66 (by decide) ?_
      have E : ([(a, .inr (0, [.int (jrem (d0 + 1) 720), .int tt, .int (s0 + (ld + w0)), .int w0, .int sl, .int bl, .int st]))] : va_W) = ([(a, .inr (0, [.int (fpD ld d0 tt s0 w0), .int tt, .int (fpS ld tt s0 w0), .int (fpW ld tt s0 w0 sl), .int (fpL ld tt s0 w0 sl), .int bl, .int (fpT ld d0 tt s0 w0 bl st)]))]) := by simp only [fpD, fpS, fpW, fpL, fpT, if_pos c_1, if_pos c_2]
      exact x_iret X hr hlocks (pw E hP) (dw E hD) hS (by simp only [fpR, if_pos c_1, if_pos c_2]) dX0_passMinute_67
    · refine lv_aload_n hx hb dX0_passMinute_56 rfl (lv_at hl 0 rfl) ?_
      refine x_get (v := .int (jrem (d0 + 1) 720)) X 0 0 in_X0 hP rfl rfl (by decide) wF_X0_19 rfl rfl dX0_passMinute_57 ?_
      refine lv_bipush (v := 60) hx hb dX0_passMinute_60 (by decide) ?_
      refine lv_irem hx hb dX0_passMinute_62 (by decide) ?_
      refine lv_if_eq (tgt := 68) hx hb dX0_passMinute_63 (by decide) (fun (c_3 : (jrem (jrem (d0 + 1) 720) 60) = 0) => ?_) (fun (c_3 : ¬ (jrem (jrem (d0 + 1) 720) 60) = 0) => ?_)
      · refine lv_aload_n hx hb dX0_passMinute_68 rfl (lv_at hl 0 rfl) ?_
        refine x_get (v := .int (jrem (d0 + 1) 720)) X 0 0 in_X0 hP rfl rfl (by decide) wF_X0_19 rfl rfl dX0_passMinute_69 ?_
        refine x_goI (wn := [(a, .inr (0, [.int (jrem (d0 + 1) 720), .int tt, .int (s0 + (ld + w0)), .int w0, .int sl, .int bl, .int st]))]) (x_rN (As := [.int (jrem (d0 + 1) 720)]) X (c_X5_strikesAt l g (jrem (d0 + 1) 720) _) yf_X5_strikesAt ys_X5_strikesAt hN.2.1 ⟨Nat.le_of_ble_eq_true rfl, Nat.le_of_ble_eq_true rfl⟩ hP hD (p_none _) hl rfl rfl (Nat.le_of_ble_eq_true rfl) dX0_passMinute_72 ⟨Nat.zero_le _, Nat.zero_le _⟩) hP hD hS hA (p_none _) (p_noneB _) (fun H locs hP hD hS => ?_)
        refine lv_istore_n (lv' := [(2, .int (strC (jrem (d0 + 1) 720))), (0, .ref a), (1, .int ld)]) hx hb dX0_passMinute_75 rfl hl (by decide) rfl (fun ls hl => ?_)
        refine lv_aload_n hx hb dX0_passMinute_76 rfl (lv_at hl 1 rfl) ?_
        refine lv_dup hx hb dX0_passMinute_77 rfl ?_
        refine x_get (v := .int st) X 0 6 in_X0 hP rfl rfl (by decide) wF_X0_31 rfl rfl dX0_passMinute_78 ?_
        refine lv_iload_n hx hb dX0_passMinute_81 rfl (lv_at hl 0 rfl) ?_
        refine lv_iadd hx hb dX0_passMinute_82 ?_
        refine x_put (v := .int (st + (strC (jrem (d0 + 1) 720)))) (ty0 := tyX0) (ws2 := [(a, .inr (0, [.int (jrem (d0 + 1) 720), .int tt, .int (s0 + (ld + w0)), .int w0, .int sl, .int bl, .int (st + (strC (jrem (d0 + 1) 720)))]))]) X 0 6 in_X0 tyX0_ok nmX0 hP hD hS rfl rfl (by decide) wF_X0_31 rfl rfl rfl rfl (Nat.le_of_ble_eq_true rfl) rfl dX0_passMinute_83 (fun H locs hP hD hS => ?_)
        refine lv_iload_n hx hb dX0_passMinute_86 rfl (lv_at hl 0 rfl) ?_
        have E : ([(a, .inr (0, [.int (jrem (d0 + 1) 720), .int tt, .int (s0 + (ld + w0)), .int w0, .int sl, .int bl, .int (st + (strC (jrem (d0 + 1) 720)))]))] : va_W) = ([(a, .inr (0, [.int (fpD ld d0 tt s0 w0), .int tt, .int (fpS ld tt s0 w0), .int (fpW ld tt s0 w0 sl), .int (fpL ld tt s0 w0 sl), .int bl, .int (fpT ld d0 tt s0 w0 bl st)]))]) := by simp only [fpD, fpS, fpW, fpL, fpT, if_pos c_1, if_neg c_2, if_pos c_3]
        exact x_iret X hr hlocks (pw E hP) (dw E hD) hS (by simp only [fpR, if_pos c_1, if_neg c_2, if_pos c_3]) dX0_passMinute_87
      · refine lv_iconst (v := 0) hx hb dX0_passMinute_66 (by decide) ?_
        have E : ([(a, .inr (0, [.int (jrem (d0 + 1) 720), .int tt, .int (s0 + (ld + w0)), .int w0, .int sl, .int bl, .int st]))] : va_W) = ([(a, .inr (0, [.int (fpD ld d0 tt s0 w0), .int tt, .int (fpS ld tt s0 w0), .int (fpW ld tt s0 w0 sl), .int (fpL ld tt s0 w0 sl), .int bl, .int (fpT ld d0 tt s0 w0 bl st)]))]) := by simp only [fpD, fpS, fpW, fpL, fpT, if_pos c_1, if_neg c_2, if_neg c_3]
        exact x_iret X hr hlocks (pw E hP) (dw E hD) hS (by simp only [fpR, if_pos c_1, if_neg c_2, if_neg c_3]) dX0_passMinute_67
  · refine lv_aload_n hx hb dX0_passMinute_29 rfl (lv_at hl 0 rfl) ?_
    refine x_goV (wn := [(a, .inr (0, [.int d0, .int tt, .int (slS tt (s0 + (ld + w0))), .int (slW w0 sl), .int (sl + 1), .int bl, .int st]))]) (x_rV (As := []) X (c_X0_slip l g a d0 tt (s0 + (ld + w0)) w0 sl bl st _) yf_X0_slip yi_X0_slip wM_X0_40 ⟨Nat.le_of_ble_eq_true rfl, Nat.le_of_ble_eq_true rfl⟩ hP hD (p_all _) 0 rfl rfl hl rfl rfl (Nat.le_of_ble_eq_true rfl) dX0_passMinute_30 ⟨Nat.zero_le _, Nat.zero_le _⟩) hP hD hS hA (p_all _) (p_back _) (fun H locs hP hD hS => ?_)
    refine lv_iconst (v := 0) hx hb dX0_passMinute_33 (by decide) ?_
    have E : ([(a, .inr (0, [.int d0, .int tt, .int (slS tt (s0 + (ld + w0))), .int (slW w0 sl), .int (sl + 1), .int bl, .int st]))] : va_W) = ([(a, .inr (0, [.int (fpD ld d0 tt s0 w0), .int tt, .int (fpS ld tt s0 w0), .int (fpW ld tt s0 w0 sl), .int (fpL ld tt s0 w0 sl), .int bl, .int (fpT ld d0 tt s0 w0 bl st)]))]) := by simp only [fpD, fpS, fpW, fpL, fpT, if_neg c_1]
    exact x_iret X hr hlocks (pw E hP) (dw E hD) hS (by simp only [fpR, if_neg c_1]) dX0_passMinute_34

def gbD (d : Int32) : Int32 := if d = 0 then 719 else d - 1
set_option maxHeartbeats 4000000 in
set_option maxRecDepth 100000 in
theorem c_X0_goBack (l : Launch) (g : wG) (a : Nat) (d0 tt s0 w0 sl bl st : Int32) : CtV l g 1 yX0_goBack cX0_goBack 1 none [.ref a] ([(a, .inr (0, [.int d0, .int tt, .int s0, .int w0, .int sl, .int bl, .int st]))]) ([(a, .inr (0, [.int (gbD d0), .int tt, .int s0, .int w0, .int sl, .int bl, .int st]))]) := by
  intro sz
  refine x_enter (Qc := fun A => QV g A ([(a, .inr (0, [.int (gbD d0), .int tt, .int s0, .int w0, .int sl, .int bl, .int st]))])) (by decide) (Nat.le_of_ble_eq_true rfl) ?_
  intro p e s m args below meth c X hr hlocks A hA hP hD hS ls hl
  obtain ⟨⟨hx, hb, hml, hown, hts⟩, hK, hN⟩ := id X
  have hl : lv_has ls 1 [(0, .ref a)] := hl
  refine lv_aload_n hx hb dX0_goBack_0 rfl (lv_at hl 0 rfl) ?_
  refine lv_aload_n hx hb dX0_goBack_1 rfl (lv_at hl 0 rfl) ?_
  refine x_get (v := .int d0) X 0 0 in_X0 hP rfl rfl (by decide) wF_X0_19 rfl rfl dX0_goBack_2 ?_
  refine lv_if_ne (tgt := 14) hx hb dX0_goBack_5 (by decide) (fun (c_1 : ¬ d0 = 0) => ?_) (fun (c_1 : d0 = 0) => ?_)
  · refine lv_aload_n hx hb dX0_goBack_14 rfl (lv_at hl 0 rfl) ?_
    refine x_get (v := .int d0) X 0 0 in_X0 hP rfl rfl (by decide) wF_X0_19 rfl rfl dX0_goBack_15 ?_
    refine lv_iconst (v := 1) hx hb dX0_goBack_18 (by decide) ?_
    refine lv_isub hx hb dX0_goBack_19 ?_
    refine x_put (v := .int (d0 - 1)) (ty0 := tyX0) (ws2 := [(a, .inr (0, [.int (d0 - 1), .int tt, .int s0, .int w0, .int sl, .int bl, .int st]))]) X 0 0 in_X0 tyX0_ok nmX0 hP hD hS rfl rfl (by decide) wF_X0_19 rfl rfl rfl rfl (Nat.le_of_ble_eq_true rfl) rfl dX0_goBack_20 (fun H locs hP hD hS => ?_)
    have E : ([(a, .inr (0, [.int (d0 - 1), .int tt, .int s0, .int w0, .int sl, .int bl, .int st]))] : va_W) = ([(a, .inr (0, [.int (gbD d0), .int tt, .int s0, .int w0, .int sl, .int bl, .int st]))]) := by simp only [gbD, if_neg c_1]
    exact x_vret X hr hlocks (pw E hP) (dw E hD) hS dX0_goBack_23
  · refine lv_sipush (v := 719) hx hb dX0_goBack_8 (by decide) ?_
    refine lv_goto (tgt := 20) hx hb dX0_goBack_11 (by decide) ?_
    refine x_put (v := .int 719) (ty0 := tyX0) (ws2 := [(a, .inr (0, [.int 719, .int tt, .int s0, .int w0, .int sl, .int bl, .int st]))]) X 0 0 in_X0 tyX0_ok nmX0 hP hD hS rfl rfl (by decide) wF_X0_19 rfl rfl rfl rfl (Nat.le_of_ble_eq_true rfl) rfl dX0_goBack_20 (fun H locs hP hD hS => ?_)
    have E : ([(a, .inr (0, [.int 719, .int tt, .int s0, .int w0, .int sl, .int bl, .int st]))] : va_W) = ([(a, .inr (0, [.int (gbD d0), .int tt, .int s0, .int w0, .int sl, .int bl, .int st]))]) := by simp only [gbD, if_pos c_1]
    exact x_vret X hr hlocks (pw E hP) (dw E hD) hS dX0_goBack_23

theorem bl_b {x : Int32} (h : x = 0 ∨ x = 1) : narrow .boolean (.int x) = .int x ∧ fits .boolean (.int x) = true := by
  rcases h with rfl | rfl <;> exact ⟨rfl, rfl⟩
set_option maxHeartbeats 4000000 in
set_option maxRecDepth 100000 in
theorem c_X0_copyFrom (l : Launch) (g : wG) (a b : Nat) (d0 tt s0 w0 sl bl st d1 t1 s1 w1 l1 b1 k1 : Int32) (hbb : b1 = 0 ∨ b1 = 1) : CtV l g 1 yX0_copyFrom cX0_copyFrom 2 none [.ref a, .ref b] ([(a, .inr (0, [.int d0, .int tt, .int s0, .int w0, .int sl, .int bl, .int st])), (b, .inr (0, [.int d1, .int t1, .int s1, .int w1, .int l1, .int b1, .int k1]))]) ([(a, .inr (0, [.int d1, .int t1, .int s1, .int w1, .int l1, .int b1, .int k1])), (b, .inr (0, [.int d1, .int t1, .int s1, .int w1, .int l1, .int b1, .int k1]))]) := by
  intro sz
  refine x_enter (Qc := fun A => QV g A ([(a, .inr (0, [.int d1, .int t1, .int s1, .int w1, .int l1, .int b1, .int k1])), (b, .inr (0, [.int d1, .int t1, .int s1, .int w1, .int l1, .int b1, .int k1]))])) (by decide) (Nat.le_of_ble_eq_true rfl) ?_
  intro p e s m args below meth c X hr hlocks A hA hP hD hS ls hl
  obtain ⟨⟨hx, hb, hml, hown, hts⟩, hK, hN⟩ := id X
  have hl : lv_has ls 2 [(0, .ref a), (1, .ref b)] := hl
  refine lv_aload_n hx hb dX0_copyFrom_0 rfl (lv_at hl 0 rfl) ?_
  refine lv_aload_n hx hb dX0_copyFrom_1 rfl (lv_at hl 1 rfl) ?_
  refine x_get (v := .int d1) X 1 0 in_X0 hP rfl rfl (by decide) wF_X0_19 rfl rfl dX0_copyFrom_2 ?_
  refine x_put (v := .int d1) (ty0 := tyX0) (ws2 := [(a, .inr (0, [.int d1, .int tt, .int s0, .int w0, .int sl, .int bl, .int st])), (b, .inr (0, [.int d1, .int t1, .int s1, .int w1, .int l1, .int b1, .int k1]))]) X 0 0 in_X0 tyX0_ok nmX0 hP hD hS rfl rfl (by decide) wF_X0_19 rfl rfl rfl rfl (Nat.le_of_ble_eq_true rfl) rfl dX0_copyFrom_5 (fun H locs hP hD hS => ?_)
  refine lv_aload_n hx hb dX0_copyFrom_8 rfl (lv_at hl 0 rfl) ?_
  refine lv_aload_n hx hb dX0_copyFrom_9 rfl (lv_at hl 1 rfl) ?_
  refine x_get (v := .int t1) X 1 1 in_X0 hP rfl rfl (by decide) wF_X0_9 rfl rfl dX0_copyFrom_10 ?_
  refine x_put (v := .int t1) (ty0 := tyX0) (ws2 := [(a, .inr (0, [.int d1, .int t1, .int s0, .int w0, .int sl, .int bl, .int st])), (b, .inr (0, [.int d1, .int t1, .int s1, .int w1, .int l1, .int b1, .int k1]))]) X 0 1 in_X0 tyX0_ok nmX0 hP hD hS rfl rfl (by decide) wF_X0_9 rfl rfl rfl rfl (Nat.le_of_ble_eq_true rfl) rfl dX0_copyFrom_13 (fun H locs hP hD hS => ?_)
  refine lv_aload_n hx hb dX0_copyFrom_16 rfl (lv_at hl 0 rfl) ?_
  refine lv_aload_n hx hb dX0_copyFrom_17 rfl (lv_at hl 1 rfl) ?_
  refine x_get (v := .int s1) X 1 2 in_X0 hP rfl rfl (by decide) wF_X0_22 rfl rfl dX0_copyFrom_18 ?_
  refine x_put (v := .int s1) (ty0 := tyX0) (ws2 := [(a, .inr (0, [.int d1, .int t1, .int s1, .int w0, .int sl, .int bl, .int st])), (b, .inr (0, [.int d1, .int t1, .int s1, .int w1, .int l1, .int b1, .int k1]))]) X 0 2 in_X0 tyX0_ok nmX0 hP hD hS rfl rfl (by decide) wF_X0_22 rfl rfl rfl rfl (Nat.le_of_ble_eq_true rfl) rfl dX0_copyFrom_21 (fun H locs hP hD hS => ?_)
  refine lv_aload_n hx hb dX0_copyFrom_24 rfl (lv_at hl 0 rfl) ?_
  refine lv_aload_n hx hb dX0_copyFrom_25 rfl (lv_at hl 1 rfl) ?_
  refine x_get (v := .int w1) X 1 3 in_X0 hP rfl rfl (by decide) wF_X0_25 rfl rfl dX0_copyFrom_26 ?_
  refine x_put (v := .int w1) (ty0 := tyX0) (ws2 := [(a, .inr (0, [.int d1, .int t1, .int s1, .int w1, .int sl, .int bl, .int st])), (b, .inr (0, [.int d1, .int t1, .int s1, .int w1, .int l1, .int b1, .int k1]))]) X 0 3 in_X0 tyX0_ok nmX0 hP hD hS rfl rfl (by decide) wF_X0_25 rfl rfl rfl rfl (Nat.le_of_ble_eq_true rfl) rfl dX0_copyFrom_29 (fun H locs hP hD hS => ?_)
  refine lv_aload_n hx hb dX0_copyFrom_32 rfl (lv_at hl 0 rfl) ?_
  refine lv_aload_n hx hb dX0_copyFrom_33 rfl (lv_at hl 1 rfl) ?_
  refine x_get (v := .int l1) X 1 4 in_X0 hP rfl rfl (by decide) wF_X0_28 rfl rfl dX0_copyFrom_34 ?_
  refine x_put (v := .int l1) (ty0 := tyX0) (ws2 := [(a, .inr (0, [.int d1, .int t1, .int s1, .int w1, .int l1, .int bl, .int st])), (b, .inr (0, [.int d1, .int t1, .int s1, .int w1, .int l1, .int b1, .int k1]))]) X 0 4 in_X0 tyX0_ok nmX0 hP hD hS rfl rfl (by decide) wF_X0_28 rfl rfl rfl rfl (Nat.le_of_ble_eq_true rfl) rfl dX0_copyFrom_37 (fun H locs hP hD hS => ?_)
  refine lv_aload_n hx hb dX0_copyFrom_40 rfl (lv_at hl 0 rfl) ?_
  refine lv_aload_n hx hb dX0_copyFrom_41 rfl (lv_at hl 1 rfl) ?_
  refine x_get (v := .int b1) X 1 5 in_X0 hP rfl rfl (by decide) wF_X0_15 rfl rfl dX0_copyFrom_42 ?_
  refine x_put (v := .int b1) (ty0 := tyX0) (ws2 := [(a, .inr (0, [.int d1, .int t1, .int s1, .int w1, .int l1, .int b1, .int st])), (b, .inr (0, [.int d1, .int t1, .int s1, .int w1, .int l1, .int b1, .int k1]))]) X 0 5 in_X0 tyX0_ok nmX0 hP hD hS rfl rfl (by decide) wF_X0_15 rfl rfl (bl_b hbb).1 (bl_b hbb).2 (Nat.le_of_ble_eq_true rfl) rfl dX0_copyFrom_45 (fun H locs hP hD hS => ?_)
  refine lv_aload_n hx hb dX0_copyFrom_48 rfl (lv_at hl 0 rfl) ?_
  refine lv_aload_n hx hb dX0_copyFrom_49 rfl (lv_at hl 1 rfl) ?_
  refine x_get (v := .int k1) X 1 6 in_X0 hP rfl rfl (by decide) wF_X0_31 rfl rfl dX0_copyFrom_50 ?_
  refine x_put (v := .int k1) (ty0 := tyX0) (ws2 := [(a, .inr (0, [.int d1, .int t1, .int s1, .int w1, .int l1, .int b1, .int k1])), (b, .inr (0, [.int d1, .int t1, .int s1, .int w1, .int l1, .int b1, .int k1]))]) X 0 6 in_X0 tyX0_ok nmX0 hP hD hS rfl rfl (by decide) wF_X0_31 rfl rfl rfl rfl (Nat.le_of_ble_eq_true rfl) rfl dX0_copyFrom_53 (fun H locs hP hD hS => ?_)
  exact x_vret X hr hlocks hP hD hS dX0_copyFrom_56

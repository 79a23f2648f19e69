abbrev RI : Type := Nat → Int32
/-- the reference's state: its rows z, past, kept, aside, buffer, told; pastMany, isKept, typed, toldMany, spot, wrong -/
abbrev MS : Type := RI × RI × RI × RI × RI × RI × Nat × Int32 × Nat × Nat × Nat × Int32
abbrev mZ (m : MS) : RI := m.1
abbrev mP (m : MS) : RI := m.2.1
abbrev mK (m : MS) : RI := m.2.2.1
abbrev mA (m : MS) : RI := m.2.2.2.1
abbrev mB (m : MS) : RI := m.2.2.2.2.1
abbrev mO (m : MS) : RI := m.2.2.2.2.2.1
abbrev mM (m : MS) : Nat := m.2.2.2.2.2.2.1
abbrev mI (m : MS) : Int32 := m.2.2.2.2.2.2.2.1
abbrev mY (m : MS) : Nat := m.2.2.2.2.2.2.2.2.1
abbrev mT (m : MS) : Nat := m.2.2.2.2.2.2.2.2.2.1
abbrev mS (m : MS) : Nat := m.2.2.2.2.2.2.2.2.2.2.1
abbrev mW (m : MS) : Int32 := m.2.2.2.2.2.2.2.2.2.2.2
abbrev mz (m : MS) (z : RI) : MS := (z, m.2)
def MW (g : wG) (o : Nat → Nat) (m : MS) : va_W := [
  (o 0, .inr (6, [.ref (o 1), .ref (o 2), .int (nI (mM m)), .ref (o 3), .int (mI m), .ref (o 4), .ref (o 5), .int (nI (mY m)), .ref (o 6), .int (nI (mT m)), .int (nI (mS m)), .int (mW m)])),
  (o 1, .inl (g.2 0, 48, .inl (mZ m))),
  (o 2, .inl (g.2 0, 240, .inl (mP m))),
  (o 3, .inl (g.2 0, 48, .inl (mK m))),
  (o 4, .inl (g.2 0, 48, .inl (mA m))),
  (o 5, .inl (g.2 1, 60, .inl (mB m))),
  (o 6, .inl (g.2 0, 63, .inl (mO m)))]
theorem ix_of (k w : Nat) : (8 + (7 * nI k)) + nI w = nI (8 + 7 * k + w) := by
  rw [show (8 : Int32) = nI 8 from rfl, show (7 : Int32) = nI 7 from rfl, pk_mul, nI_add, nI_add]
theorem ix_s (k : Nat) : 36 + (2 * nI k) = nI (36 + 2 * k) := by
  rw [show (36 : Int32) = nI 36 from rfl, show (2 : Int32) = nI 2 from rfl, pk_mul, nI_add]
theorem ix_w (k : Nat) : (36 + (2 * nI k)) + 1 = nI (36 + 2 * k + 1) := by
  rw [ix_s, nI_1]
theorem ne1000 {k : Nat} (h : k < 2 ^ 31) : ¬ nI k = -1000 := fun e => nI_pos h (by rw [e]; decide)
set_option maxHeartbeats 4000000 in
set_option maxRecDepth 100000 in
theorem c_X6_in (l : Launch) (g : wG) (v a b : Int32) : CtI l g 0 yX6_in cX6_in 3 (some .boolean) [.int v, .int a, .int b] ([]) (isw v a b) ([]) := by
  intro sz
  refine x_enter (Qc := fun A => QI g A (isw v a b) ([])) (by decide) (Nat.le_of_ble_eq_true rfl) ?_
  intro p e s m args below meth c X hr hlocks A hA hP hD hS ls hl
  obtain ⟨⟨hx, hb, hml, hown, hts⟩, hK, hN⟩ := id X
  have hl : lv_has ls 3 [(0, .int v), (1, .int a), (2, .int b)] := hl
  refine lv_iload_n hx hb dX6_in_0 rfl (lv_at hl 0 rfl) ?_
  refine lv_iload_n hx hb dX6_in_1 rfl (lv_at hl 1 rfl) ?_
  refine lv_icmp_lt (tgt := 14) hx hb dX6_in_2 (by decide) (fun (c_1 : v < a) => ?_) (fun (c_1 : ¬ v < a) => ?_)
  · refine lv_iconst (v := 0) hx hb dX6_in_14 (by decide) ?_
    exact x_zret X hr hlocks rfl hP hD hS (by simp only [isw, if_pos c_1]) dX6_in_15
  · refine lv_iload_n hx hb dX6_in_5 rfl (lv_at hl 0 rfl) ?_
    refine lv_iload_n hx hb dX6_in_6 rfl (lv_at hl 2 rfl) ?_
    refine lv_icmp_gt (tgt := 14) hx hb dX6_in_7 (by decide) (fun (c_2 : b < v) => ?_) (fun (c_2 : ¬ b < v) => ?_)
    · refine lv_iconst (v := 0) hx hb dX6_in_14 (by decide) ?_
      exact x_zret X hr hlocks rfl hP hD hS (by simp only [isw, if_neg c_1, if_pos c_2]) dX6_in_15
    · refine lv_iconst (v := 1) hx hb dX6_in_10 (by decide) ?_
      refine lv_goto (tgt := 15) hx hb dX6_in_11 (by decide) ?_
      exact x_zret X hr hlocks rfl hP hD hS (by simp only [isw, if_neg c_1, if_neg c_2]) dX6_in_15

def isf (v : Int32) : Int32 := isw v 0 3
set_option maxHeartbeats 4000000 in
set_option maxRecDepth 100000 in
theorem c_X6_isFace (l : Launch) (g : wG) (v : Int32) : CtI l g 1 yX6_isFace cX6_isFace 1 (some .boolean) [.int v] ([]) (isf v) ([]) := by
  intro sz
  refine x_enter (Qc := fun A => QI g A (isf v) ([])) (by decide) (Nat.le_of_ble_eq_true rfl) ?_
  intro p e s m args below meth c X hr hlocks A hA hP hD hS ls hl
  obtain ⟨⟨hx, hb, hml, hown, hts⟩, hK, hN⟩ := id X
  have hl : lv_has ls 1 [(0, .int v)] := hl
  refine lv_iload_n hx hb dX6_isFace_0 rfl (lv_at hl 0 rfl) ?_
  refine lv_iconst (v := 0) hx hb dX6_isFace_1 (by decide) ?_
  refine lv_iconst (v := 3) hx hb dX6_isFace_2 (by decide) ?_
  refine x_goI (wn := []) (x_rS (As := [.int v, .int 0, .int 3]) X (c_X6_in l g v 0 3 _) yf_X6_in ys_X6_in wM_X6_33 ⟨Nat.le_of_ble_eq_true rfl, Nat.le_of_ble_eq_true rfl⟩ hP hD (p_none _) hl rfl rfl (Nat.le_of_ble_eq_true rfl) dX6_isFace_3 ⟨Nat.zero_le _, Nat.zero_le _⟩) hP hD hS hA (p_none _) (p_noneB _) (fun H locs hP hD hS => ?_)
  exact x_zret X hr hlocks (isw_b _ _ _).1 hP hD hS rfl dX6_isFace_6

def distM (a b : Int32) : Int32 := if 360 < jrem ((a - b) + 720) 720 then 720 - jrem ((a - b) + 720) 720 else jrem ((a - b) + 720) 720
set_option maxHeartbeats 4000000 in
set_option maxRecDepth 100000 in
theorem c_X6_distance (l : Launch) (g : wG) (a b : Int32) : CtI l g 0 yX6_distance cX6_distance 3 (some .int) [.int a, .int b] ([]) (distM a b) ([]) := by
  intro sz
  refine x_enter (Qc := fun A => QI g A (distM a b) ([])) (by decide) (Nat.le_of_ble_eq_true rfl) ?_
  intro p e s m args below meth c X hr hlocks A hA hP hD hS ls hl
  obtain ⟨⟨hx, hb, hml, hown, hts⟩, hK, hN⟩ := id X
  have hl : lv_has ls 3 [(0, .int a), (1, .int b)] := hl
  refine lv_iload_n hx hb dX6_distance_0 rfl (lv_at hl 0 rfl) ?_
  refine lv_iload_n hx hb dX6_distance_1 rfl (lv_at hl 1 rfl) ?_
  refine lv_isub hx hb dX6_distance_2 ?_
  refine lv_sipush (v := 720) hx hb dX6_distance_3 (by decide) ?_
  refine lv_iadd hx hb dX6_distance_6 ?_
  refine lv_sipush (v := 720) hx hb dX6_distance_7 (by decide) ?_
  refine lv_irem hx hb dX6_distance_10 (by decide) ?_
  refine lv_istore_n (lv' := [(2, .int (jrem ((a - b) + 720) 720)), (0, .int a), (1, .int b)]) hx hb dX6_distance_11 rfl hl (by decide) rfl (fun ls hl => ?_)
  refine lv_iload_n hx hb dX6_distance_12 rfl (lv_at hl 0 rfl) ?_
  refine lv_sipush (v := 360) hx hb dX6_distance_13 (by decide) ?_
  refine lv_icmp_gt (tgt := 23) hx hb dX6_distance_16 (by decide) (fun (c_1 : 360 < (jrem ((a - b) + 720) 720)) => ?_) (fun (c_1 : ¬ 360 < (jrem ((a - b) + 720) 720)) => ?_)
  · refine lv_sipush (v := 720) hx hb dX6_distance_23 (by decide) ?_
    refine lv_iload_n hx hb dX6_distance_26 rfl (lv_at hl 0 rfl) ?_
    refine lv_isub hx hb dX6_distance_27 ?_
    exact x_iret X hr hlocks hP hD hS (by simp only [distM, if_pos c_1]) dX6_distance_28
  · refine lv_iload_n hx hb dX6_distance_19 rfl (lv_at hl 0 rfl) ?_
    refine lv_goto (tgt := 28) hx hb dX6_distance_20 (by decide) ?_
    exact x_iret X hr hlocks hP hD hS (by simp only [distM, if_neg c_1]) dX6_distance_28

def strM (d : Int32) : Int32 := if jrem d 60 ≤ 0 then (if d = 0 then 12 else d / 60) else 0
set_option maxHeartbeats 4000000 in
set_option maxRecDepth 100000 in
theorem c_X6_strikesAt (l : Launch) (g : wG) (dd : Int32) : CtI l g 0 yX6_strikesAt cX6_strikesAt 1 (some .int) [.int dd] ([]) (strM dd) ([]) := by
  intro sz
  refine x_enter (Qc := fun A => QI g A (strM dd) ([])) (by decide) (Nat.le_of_ble_eq_true rfl) ?_
  intro p e s m args below meth c X hr hlocks A hA hP hD hS ls hl
  obtain ⟨⟨hx, hb, hml, hown, hts⟩, hK, hN⟩ := id X
  have hl : lv_has ls 1 [(0, .int dd)] := hl
  refine lv_iload_n hx hb dX6_strikesAt_0 rfl (lv_at hl 0 rfl) ?_
  refine lv_bipush (v := 60) hx hb dX6_strikesAt_1 (by decide) ?_
  refine lv_irem hx hb dX6_strikesAt_3 (by decide) ?_
  refine lv_if_le (tgt := 11) hx hb dX6_strikesAt_4 (by decide) (fun (c_1 : (jrem dd 60) ≤ 0) => ?_) (fun (c_1 : ¬ (jrem dd 60) ≤ 0) => ?_)
  · refine lv_iload_n hx hb dX6_strikesAt_11 rfl (lv_at hl 0 rfl) ?_
    refine lv_if_ne (tgt := 20) hx hb dX6_strikesAt_12 (by decide) (fun (c_2 : ¬ dd = 0) => ?_) (fun (c_2 : dd = 0) => ?_)
    · refine lv_iload_n hx hb dX6_strikesAt_20 rfl (lv_at hl 0 rfl) ?_
      refine lv_bipush (v := 60) hx hb dX6_strikesAt_21 (by decide) ?_
      refine lv_idiv hx hb dX6_strikesAt_23 (by decide) ?_
      exact x_iret X hr hlocks hP hD hS (by simp only [strM, if_pos c_1, if_neg c_2]) dX6_strikesAt_24
    · refine lv_bipush (v := 12) hx hb dX6_strikesAt_15 (by decide) ?_
      refine lv_goto (tgt := 24) hx hb dX6_strikesAt_17 (by decide) ?_
      exact x_iret X hr hlocks hP hD hS (by simp only [strM, if_pos c_1, if_pos c_2]) dX6_strikesAt_24
  · refine lv_iconst (v := 0) hx hb dX6_strikesAt_7 (by decide) ?_
    refine lv_goto (tgt := 24) hx hb dX6_strikesAt_8 (by decide) ?_
    exact x_iret X hr hlocks hP hD hS (by simp only [strM, if_neg c_1]) dX6_strikesAt_24

def irM (s v : Int32) : Int32 := if s = 0 then isw v 1 9 else if s = 1 then isw v 0 60 else if s = 2 then (if isw v 100 5000 = 0 then 0 else 1) else 0
theorem irM_b (s v : Int32) : irM s v = 0 ∨ irM s v = 1 := by
  have h : ∀ x a b, isw x a b = 0 ∨ isw x a b = 1 := by
    intro x a b; unfold isw; split
    · exact Or.inl rfl
    · split
      · exact Or.inl rfl
      · exact Or.inr rfl
  unfold irM
  split
  · exact h _ _ _
  · split
    · exact h _ _ _
    · split
      · split
        · exact Or.inl rfl
        · exact Or.inr rfl
      · exact Or.inl rfl
set_option maxHeartbeats 4000000 in
set_option maxRecDepth 100000 in
theorem c_X6_isInRange (l : Launch) (g : wG) (s0 v : Int32) : CtI l g 1 yX6_isInRange cX6_isInRange 2 (some .boolean) [.int s0, .int v] ([]) (irM s0 v) ([]) := by
  intro sz
  refine x_enter (Qc := fun A => QI g A (irM s0 v) ([])) (by decide) (Nat.le_of_ble_eq_true rfl) ?_
  intro p e s m args below meth c X hr hlocks A hA hP hD hS ls hl
  obtain ⟨⟨hx, hb, hml, hown, hts⟩, hK, hN⟩ := id X
  have hl : lv_has ls 2 [(0, .int s0), (1, .int v)] := hl
  refine lv_iload_n hx hb dX6_isInRange_0 rfl (lv_at hl 0 rfl) ?_
  refine lv_if_ne (tgt := 14) hx hb dX6_isInRange_1 (by decide) (fun (c_1 : ¬ s0 = 0) => ?_) (fun (c_1 : s0 = 0) => ?_)
  · refine lv_iload_n hx hb dX6_isInRange_14 rfl (lv_at hl 0 rfl) ?_
    refine lv_iconst (v := 1) hx hb dX6_isInRange_15 (by decide) ?_
    refine lv_icmp_ne (tgt := 29) hx hb dX6_isInRange_16 (by decide) (fun (c_2 : ¬ s0 = 1) => ?_) (fun (c_2 : s0 = 1) => ?_)
    · refine lv_iload_n hx hb dX6_isInRange_29 rfl (lv_at hl 0 rfl) ?_
      refine lv_iconst (v := 2) hx hb dX6_isInRange_30 (by decide) ?_
      refine lv_icmp_ne (tgt := 50) hx hb dX6_isInRange_31 (by decide) (fun (c_3 : ¬ s0 = 2) => ?_) (fun (c_3 : s0 = 2) => ?_)
      · refine lv_iconst (v := 0) hx hb dX6_isInRange_50 (by decide) ?_
        exact x_zret X hr hlocks rfl hP hD hS (by simp only [irM, if_neg c_1, if_neg c_2, if_neg c_3]) dX6_isInRange_51
      · refine lv_iload_n hx hb dX6_isInRange_34 rfl (lv_at hl 1 rfl) ?_
        refine lv_bipush (v := 100) hx hb dX6_isInRange_35 (by decide) ?_
        refine lv_sipush (v := 5000) hx hb dX6_isInRange_37 (by decide) ?_
        refine x_goI (wn := []) (x_rS (As := [.int v, .int 100, .int 5000]) X (c_X6_in l g v 100 5000 _) yf_X6_in ys_X6_in wM_X6_33 ⟨Nat.le_of_ble_eq_true rfl, Nat.le_of_ble_eq_true rfl⟩ hP hD (p_none _) hl rfl rfl (Nat.le_of_ble_eq_true rfl) dX6_isInRange_40 ⟨Nat.zero_le _, Nat.zero_le _⟩) hP hD hS hA (p_none _) (p_noneB _) (fun H locs hP hD hS => ?_)
        refine lv_if_eq (tgt := 50) hx hb dX6_isInRange_43 (by decide) (fun (c_4 : (isw v 100 5000) = 0) => ?_) (fun (c_4 : ¬ (isw v 100 5000) = 0) => ?_)
        · refine lv_iconst (v := 0) hx hb dX6_isInRange_50 (by decide) ?_
          exact x_zret X hr hlocks rfl hP hD hS (by simp only [irM, if_neg c_1, if_neg c_2, if_pos c_3, if_pos c_4]) dX6_isInRange_51
        · refine lv_iconst (v := 1) hx hb dX6_isInRange_46 (by decide) ?_
          refine lv_goto (tgt := 51) hx hb dX6_isInRange_47 (by decide) ?_
          exact x_zret X hr hlocks rfl hP hD hS (by simp only [irM, if_neg c_1, if_neg c_2, if_pos c_3, if_neg c_4]) dX6_isInRange_51
    · refine lv_iload_n hx hb dX6_isInRange_19 rfl (lv_at hl 1 rfl) ?_
      refine lv_iconst (v := 0) hx hb dX6_isInRange_20 (by decide) ?_
      refine lv_bipush (v := 60) hx hb dX6_isInRange_21 (by decide) ?_
      refine x_goI (wn := []) (x_rS (As := [.int v, .int 0, .int 60]) X (c_X6_in l g v 0 60 _) yf_X6_in ys_X6_in wM_X6_33 ⟨Nat.le_of_ble_eq_true rfl, Nat.le_of_ble_eq_true rfl⟩ hP hD (p_none _) hl rfl rfl (Nat.le_of_ble_eq_true rfl) dX6_isInRange_23 ⟨Nat.zero_le _, Nat.zero_le _⟩) hP hD hS hA (p_none _) (p_noneB _) (fun H locs hP hD hS => ?_)
      refine lv_goto (tgt := 51) hx hb dX6_isInRange_26 (by decide) ?_
      exact x_zret X hr hlocks (isw_b _ _ _).1 hP hD hS (by simp only [irM, if_neg c_1, if_pos c_2]) dX6_isInRange_51
  · refine lv_iload_n hx hb dX6_isInRange_4 rfl (lv_at hl 1 rfl) ?_
    refine lv_iconst (v := 1) hx hb dX6_isInRange_5 (by decide) ?_
    refine lv_bipush (v := 9) hx hb dX6_isInRange_6 (by decide) ?_
    refine x_goI (wn := []) (x_rS (As := [.int v, .int 1, .int 9]) X (c_X6_in l g v 1 9 _) yf_X6_in ys_X6_in wM_X6_33 ⟨Nat.le_of_ble_eq_true rfl, Nat.le_of_ble_eq_true rfl⟩ hP hD (p_none _) hl rfl rfl (Nat.le_of_ble_eq_true rfl) dX6_isInRange_8 ⟨Nat.zero_le _, Nat.zero_le _⟩) hP hD hS hA (p_none _) (p_noneB _) (fun H locs hP hD hS => ?_)
    refine lv_goto (tgt := 51) hx hb dX6_isInRange_11 (by decide) ?_
    exact x_zret X hr hlocks (isw_b _ _ _).1 hP hD hS (by simp only [irM, if_pos c_1]) dX6_isInRange_51

set_option maxHeartbeats 4000000 in
set_option maxRecDepth 100000 in
theorem c_X6_of (l : Launch) (g : wG) (o : Nat → Nat) (r : MS) (k w : Nat) (hk : k < 4) (hw : w < 7) : CtI l g 0 yX6_of cX6_of 3 (some .int) [.ref (o 0), .int (nI k), .int (nI w)] (MW g o r) (mZ r (8 + 7 * k + w)) (MW g o r) := by
  intro sz
  refine x_enter (Qc := fun A => QI g A (mZ r (8 + 7 * k + w)) (MW g o r)) (by decide) (Nat.le_of_ble_eq_true rfl) ?_
  intro p e s m args below meth c X hr hlocks A hA hP hD hS ls hl
  obtain ⟨⟨hx, hb, hml, hown, hts⟩, hK, hN⟩ := id X
  have hl : lv_has ls 3 [(0, .ref (o 0)), (1, .int (nI k)), (2, .int (nI w))] := hl
  refine lv_aload_n hx hb dX6_of_0 rfl (lv_at hl 0 rfl) ?_
  refine x_get (v := .ref (o 1)) X 0 0 in_X6 hP rfl rfl (by decide) wF_X6_7 rfl rfl dX6_of_1 ?_
  refine lv_bipush (v := 8) hx hb dX6_of_4 (by decide) ?_
  refine lv_bipush (v := 7) hx hb dX6_of_6 (by decide) ?_
  refine lv_iload_n hx hb dX6_of_8 rfl (lv_at hl 1 rfl) ?_
  refine lv_imul hx hb dX6_of_9 ?_
  refine lv_iadd hx hb dX6_of_10 ?_
  refine lv_iload_n hx hb dX6_of_11 rfl (lv_at hl 2 rfl) ?_
  refine lv_iadd hx hb dX6_of_12 ?_
  refine x_iald (v := ((mZ r) (8 + 7 * k + w))) X 1 (8 + 7 * k + w) hP rfl (ix_of k w) (by omega) (Nat.le_of_ble_eq_true rfl) rfl dX6_of_13 ?_
  exact x_iret X hr hlocks hP hD hS rfl dX6_of_14

set_option maxHeartbeats 4000000 in
set_option maxRecDepth 100000 in
theorem c_X6_lays (l : Launch) (g : wG) (o : Nat → Nat) (r : MS) (k w : Nat) (hk : k < 4) (hw : w < 7) (v : Int32) : CtV l g 0 yX6_lays cX6_lays 4 none [.ref (o 0), .int (nI k), .int (nI w), .int v] (MW g o r) (MW g o (mz r (upd (mZ r) (8 + 7 * k + w) v))) := by
  intro sz
  refine x_enter (Qc := fun A => QV g A (MW g o (mz r (upd (mZ r) (8 + 7 * k + w) v)))) (by decide) (Nat.le_of_ble_eq_true rfl) ?_
  intro p e s m args below meth c X hr hlocks A hA hP hD hS ls hl
  obtain ⟨⟨hx, hb, hml, hown, hts⟩, hK, hN⟩ := id X
  have hl : lv_has ls 4 [(0, .ref (o 0)), (1, .int (nI k)), (2, .int (nI w)), (3, .int v)] := hl
  refine lv_aload_n hx hb dX6_lays_0 rfl (lv_at hl 0 rfl) ?_
  refine x_get (v := .ref (o 1)) X 0 0 in_X6 hP rfl rfl (by decide) wF_X6_7 rfl rfl dX6_lays_1 ?_
  refine lv_bipush (v := 8) hx hb dX6_lays_4 (by decide) ?_
  refine lv_bipush (v := 7) hx hb dX6_lays_6 (by decide) ?_
  refine lv_iload_n hx hb dX6_lays_8 rfl (lv_at hl 1 rfl) ?_
  refine lv_imul hx hb dX6_lays_9 ?_
  refine lv_iadd hx hb dX6_lays_10 ?_
  refine lv_iload_n hx hb dX6_lays_11 rfl (lv_at hl 2 rfl) ?_
  refine lv_iadd hx hb dX6_lays_12 ?_
  refine lv_iload_n hx hb dX6_lays_13 rfl (lv_at hl 3 rfl) ?_
  refine x_iast (ws2 := MW g o (mz r (upd (mZ r) (8 + 7 * k + w) v))) X 1 (8 + 7 * k + w) hP hD hS rfl (ix_of k w) (by omega) (Nat.le_of_ble_eq_true rfl) rfl dX6_lays_14 (fun H locs hP hD hS => ?_)
  exact x_vret X hr hlocks hP hD hS dX6_lays_15

def oilM (o : Nat) (z : RI) : RI := upd (upd z (o + 3) (if z (o + 3) ≤ 0 then 0 else z (o + 3) - 1)) (o + 2) 0
def oilMR (o : Nat) (z : RI) : Int32 := if z (o + 3) ≤ 0 then 0 else z (o + 3) - 1
def hanM (o : Nat) (z : RI) : RI := upd z (o + 5) (1 - z (o + 5))
def ssM (o : Nat) (z : RI) : Int32 := (z (o + 2) + z 1) + z (o + 3)
def stM (o : Nat) (z : RI) : Int32 := if z (o + 5) = 1 then strM (jrem (z o + 1) 720) else 0
def turnM (o : Nat) (z : RI) : RI × Int32 :=
  if ssM o z < 10 * z (o + 1) then (upd (upd (upd z (o + 2) (ssM o z)) o (jrem (z o + 1) 720)) (o + 6) (z (o + 6) + stM o z), stM o z)
  else if jrem (z (o + 4) + 1) 3 = 0 then (if 9 ≤ z (o + 3) then (upd (upd z (o + 2) (ssM o z - 10 * z (o + 1))) (o + 4) (z (o + 4) + 1), 0) else (upd (upd (upd z (o + 2) (ssM o z - 10 * z (o + 1))) (o + 4) (z (o + 4) + 1)) (o + 3) (z (o + 3) + 1), 0))
  else (upd (upd z (o + 2) (ssM o z - 10 * z (o + 1))) (o + 4) (z (o + 4) + 1), 0)
set_option maxHeartbeats 4000000 in
set_option maxRecDepth 100000 in
theorem c_X6_oils_0 (l : Launch) (g : wG) (o : Nat → Nat) (r : MS) : CtI l g 1 yX6_oils cX6_oils 2 (some .int) [.ref (o 0), .int 0] (MW g o r) (oilMR 8 (mZ r)) (MW g o (mz r (oilM 8 (mZ r)))) := by
  intro sz
  refine x_enter (Qc := fun A => QI g A (oilMR 8 (mZ r)) (MW g o (mz r (oilM 8 (mZ r))))) (by decide) (Nat.le_of_ble_eq_true rfl) ?_
  intro p e s m args below meth c X hr hlocks A hA hP hD hS ls hl
  obtain ⟨⟨hx, hb, hml, hown, hts⟩, hK, hN⟩ := id X
  have hl : lv_has ls 2 [(0, .ref (o 0)), (1, .int 0)] := hl
  refine lv_aload_n hx hb dX6_oils_0 rfl (lv_at hl 0 rfl) ?_
  refine lv_iload_n hx hb dX6_oils_1 rfl (lv_at hl 1 rfl) ?_
  refine lv_iconst (v := 3) hx hb dX6_oils_2 (by decide) ?_
  refine lv_aload_n hx hb dX6_oils_3 rfl (lv_at hl 0 rfl) ?_
  refine lv_iload_n hx hb dX6_oils_4 rfl (lv_at hl 1 rfl) ?_
  refine lv_iconst (v := 3) hx hb dX6_oils_5 (by decide) ?_
  refine x_goI (wn := MW g o r) (x_rV (As := [.int 0, .int 3]) X (c_X6_of l g o r 0 3 (by decide) (by decide)  _) yf_X6_of yi_X6_of wM_X6_56 ⟨Nat.le_of_ble_eq_true rfl, Nat.le_of_ble_eq_true rfl⟩ hP hD (p_all _) 0 rfl rfl hl rfl rfl (Nat.le_of_ble_eq_true rfl) dX6_oils_6 ⟨Nat.zero_le _, Nat.zero_le _⟩) hP hD hS hA (p_all _) (p_back _) (fun H locs hP hD hS => ?_)
  refine lv_if_le (tgt := 23) hx hb dX6_oils_9 (by decide) (fun (c_1 : ((mZ r) 11) ≤ 0) => ?_) (fun (c_1 : ¬ ((mZ r) 11) ≤ 0) => ?_)
  · refine lv_iconst (v := 0) hx hb dX6_oils_23 (by decide) ?_
    refine x_goV (wn := MW g o (mz r (upd (mZ r) 11 0))) (x_rV (As := [.int 0, .int 3, .int 0]) X (c_X6_lays l g o r 0 3 (by decide) (by decide) 0  _) yf_X6_lays yi_X6_lays wM_X6_29 ⟨Nat.le_of_ble_eq_true rfl, Nat.le_of_ble_eq_true rfl⟩ hP hD (p_all _) 0 rfl rfl hl rfl rfl (Nat.le_of_ble_eq_true rfl) dX6_oils_24 ⟨Nat.zero_le _, Nat.zero_le _⟩) hP hD hS hA (p_all _) (p_back _) (fun H locs hP hD hS => ?_)
    refine lv_aload_n hx hb dX6_oils_27 rfl (lv_at hl 0 rfl) ?_
    refine lv_iload_n hx hb dX6_oils_28 rfl (lv_at hl 1 rfl) ?_
    refine lv_iconst (v := 2) hx hb dX6_oils_29 (by decide) ?_
    refine lv_iconst (v := 0) hx hb dX6_oils_30 (by decide) ?_
    refine x_goV (wn := MW g o (mz r (upd (upd (mZ r) 11 0) 10 0))) (x_rV (As := [.int 0, .int 2, .int 0]) X (c_X6_lays l g o (mz r (upd (mZ r) 11 0)) 0 2 (by decide) (by decide) 0  _) yf_X6_lays yi_X6_lays wM_X6_29 ⟨Nat.le_of_ble_eq_true rfl, Nat.le_of_ble_eq_true rfl⟩ hP hD (p_all _) 0 rfl rfl hl rfl rfl (Nat.le_of_ble_eq_true rfl) dX6_oils_31 ⟨Nat.zero_le _, Nat.zero_le _⟩) hP hD hS hA (p_all _) (p_back _) (fun H locs hP hD hS => ?_)
    refine lv_aload_n hx hb dX6_oils_34 rfl (lv_at hl 0 rfl) ?_
    refine lv_iload_n hx hb dX6_oils_35 rfl (lv_at hl 1 rfl) ?_
    refine lv_iconst (v := 3) hx hb dX6_oils_36 (by decide) ?_
    refine x_goI (wn := MW g o (mz r (upd (upd (mZ r) 11 0) 10 0))) (x_rV (As := [.int 0, .int 3]) X (c_X6_of l g o (mz r (upd (upd (mZ r) 11 0) 10 0)) 0 3 (by decide) (by decide)  _) yf_X6_of yi_X6_of wM_X6_56 ⟨Nat.le_of_ble_eq_true rfl, Nat.le_of_ble_eq_true rfl⟩ hP hD (p_all _) 0 rfl rfl hl rfl rfl (Nat.le_of_ble_eq_true rfl) dX6_oils_37 ⟨Nat.zero_le _, Nat.zero_le _⟩) hP hD hS hA (p_all _) (p_back _) (fun H locs hP hD hS => ?_)
    have E : (MW g o (mz r (upd (upd (mZ r) 11 0) 10 0)) : va_W) = MW g o (mz r (oilM 8 (mZ r))) := by (simp only [oilM, oilMR, if_pos c_1]) <;> rfl
    exact x_iret X hr hlocks (pw E hP) (dw E hD) hS (by (simp only [oilM, oilMR, if_pos c_1]) <;> rfl) dX6_oils_40
  · refine lv_aload_n hx hb dX6_oils_12 rfl (lv_at hl 0 rfl) ?_
    refine lv_iload_n hx hb dX6_oils_13 rfl (lv_at hl 1 rfl) ?_
    refine lv_iconst (v := 3) hx hb dX6_oils_14 (by decide) ?_
    refine x_goI (wn := MW g o r) (x_rV (As := [.int 0, .int 3]) X (c_X6_of l g o r 0 3 (by decide) (by decide)  _) yf_X6_of yi_X6_of wM_X6_56 ⟨Nat.le_of_ble_eq_true rfl, Nat.le_of_ble_eq_true rfl⟩ hP hD (p_all _) 0 rfl rfl hl rfl rfl (Nat.le_of_ble_eq_true rfl) dX6_oils_15 ⟨Nat.zero_le _, Nat.zero_le _⟩) hP hD hS hA (p_all _) (p_back _) (fun H locs hP hD hS => ?_)
    refine lv_iconst (v := 1) hx hb dX6_oils_18 (by decide) ?_
    refine lv_isub hx hb dX6_oils_19 ?_
    refine lv_goto (tgt := 24) hx hb dX6_oils_20 (by decide) ?_
    refine x_goV (wn := MW g o (mz r (upd (mZ r) 11 (((mZ r) 11) - 1)))) (x_rV (As := [.int 0, .int 3, .int (((mZ r) 11) - 1)]) X (c_X6_lays l g o r 0 3 (by decide) (by decide) (((mZ r) 11) - 1)  _) yf_X6_lays yi_X6_lays wM_X6_29 ⟨Nat.le_of_ble_eq_true rfl, Nat.le_of_ble_eq_true rfl⟩ hP hD (p_all _) 0 rfl rfl hl rfl rfl (Nat.le_of_ble_eq_true rfl) dX6_oils_24 ⟨Nat.zero_le _, Nat.zero_le _⟩) hP hD hS hA (p_all _) (p_back _) (fun H locs hP hD hS => ?_)
    refine lv_aload_n hx hb dX6_oils_27 rfl (lv_at hl 0 rfl) ?_
    refine lv_iload_n hx hb dX6_oils_28 rfl (lv_at hl 1 rfl) ?_
    refine lv_iconst (v := 2) hx hb dX6_oils_29 (by decide) ?_
    refine lv_iconst (v := 0) hx hb dX6_oils_30 (by decide) ?_
    refine x_goV (wn := MW g o (mz r (upd (upd (mZ r) 11 (((mZ r) 11) - 1)) 10 0))) (x_rV (As := [.int 0, .int 2, .int 0]) X (c_X6_lays l g o (mz r (upd (mZ r) 11 (((mZ r) 11) - 1))) 0 2 (by decide) (by decide) 0  _) yf_X6_lays yi_X6_lays wM_X6_29 ⟨Nat.le_of_ble_eq_true rfl, Nat.le_of_ble_eq_true rfl⟩ hP hD (p_all _) 0 rfl rfl hl rfl rfl (Nat.le_of_ble_eq_true rfl) dX6_oils_31 ⟨Nat.zero_le _, Nat.zero_le _⟩) hP hD hS hA (p_all _) (p_back _) (fun H locs hP hD hS => ?_)
    refine lv_aload_n hx hb dX6_oils_34 rfl (lv_at hl 0 rfl) ?_
    refine lv_iload_n hx hb dX6_oils_35 rfl (lv_at hl 1 rfl) ?_
    refine lv_iconst (v := 3) hx hb dX6_oils_36 (by decide) ?_
    refine x_goI (wn := MW g o (mz r (upd (upd (mZ r) 11 (((mZ r) 11) - 1)) 10 0))) (x_rV (As := [.int 0, .int 3]) X (c_X6_of l g o (mz r (upd (upd (mZ r) 11 (((mZ r) 11) - 1)) 10 0)) 0 3 (by decide) (by decide)  _) yf_X6_of yi_X6_of wM_X6_56 ⟨Nat.le_of_ble_eq_true rfl, Nat.le_of_ble_eq_true rfl⟩ hP hD (p_all _) 0 rfl rfl hl rfl rfl (Nat.le_of_ble_eq_true rfl) dX6_oils_37 ⟨Nat.zero_le _, Nat.zero_le _⟩) hP hD hS hA (p_all _) (p_back _) (fun H locs hP hD hS => ?_)
    have E : (MW g o (mz r (upd (upd (mZ r) 11 (((mZ r) 11) - 1)) 10 0)) : va_W) = MW g o (mz r (oilM 8 (mZ r))) := by (simp only [oilM, oilMR, if_neg c_1]) <;> rfl
    exact x_iret X hr hlocks (pw E hP) (dw E hD) hS (by (simp only [oilM, oilMR, if_neg c_1]) <;> rfl) dX6_oils_40

set_option maxHeartbeats 4000000 in
set_option maxRecDepth 100000 in
theorem c_X6_hangs_0 (l : Launch) (g : wG) (o : Nat → Nat) (r : MS) : CtI l g 1 yX6_hangs cX6_hangs 2 (some .int) [.ref (o 0), .int 0] (MW g o r) (1 - mZ r 13) (MW g o (mz r (hanM 8 (mZ r)))) := by
  intro sz
  refine x_enter (Qc := fun A => QI g A (1 - mZ r 13) (MW g o (mz r (hanM 8 (mZ r))))) (by decide) (Nat.le_of_ble_eq_true rfl) ?_
  intro p e s m args below meth c X hr hlocks A hA hP hD hS ls hl
  obtain ⟨⟨hx, hb, hml, hown, hts⟩, hK, hN⟩ := id X
  have hl : lv_has ls 2 [(0, .ref (o 0)), (1, .int 0)] := hl
  refine lv_aload_n hx hb dX6_hangs_0 rfl (lv_at hl 0 rfl) ?_
  refine lv_iload_n hx hb dX6_hangs_1 rfl (lv_at hl 1 rfl) ?_
  refine lv_iconst (v := 5) hx hb dX6_hangs_2 (by decide) ?_
  refine lv_iconst (v := 1) hx hb dX6_hangs_3 (by decide) ?_
  refine lv_aload_n hx hb dX6_hangs_4 rfl (lv_at hl 0 rfl) ?_
  refine lv_iload_n hx hb dX6_hangs_5 rfl (lv_at hl 1 rfl) ?_
  refine lv_iconst (v := 5) hx hb dX6_hangs_6 (by decide) ?_
  refine x_goI (wn := MW g o r) (x_rV (As := [.int 0, .int 5]) X (c_X6_of l g o r 0 5 (by decide) (by decide)  _) yf_X6_of yi_X6_of wM_X6_56 ⟨Nat.le_of_ble_eq_true rfl, Nat.le_of_ble_eq_true rfl⟩ hP hD (p_all _) 0 rfl rfl hl rfl rfl (Nat.le_of_ble_eq_true rfl) dX6_hangs_7 ⟨Nat.zero_le _, Nat.zero_le _⟩) hP hD hS hA (p_all _) (p_back _) (fun H locs hP hD hS => ?_)
  refine lv_isub hx hb dX6_hangs_10 ?_
  refine x_goV (wn := MW g o (mz r (upd (mZ r) 13 (1 - ((mZ r) 13))))) (x_rV (As := [.int 0, .int 5, .int (1 - ((mZ r) 13))]) X (c_X6_lays l g o r 0 5 (by decide) (by decide) (1 - ((mZ r) 13))  _) yf_X6_lays yi_X6_lays wM_X6_29 ⟨Nat.le_of_ble_eq_true rfl, Nat.le_of_ble_eq_true rfl⟩ hP hD (p_all _) 0 rfl rfl hl rfl rfl (Nat.le_of_ble_eq_true rfl) dX6_hangs_11 ⟨Nat.zero_le _, Nat.zero_le _⟩) hP hD hS hA (p_all _) (p_back _) (fun H locs hP hD hS => ?_)
  refine lv_aload_n hx hb dX6_hangs_14 rfl (lv_at hl 0 rfl) ?_
  refine lv_iload_n hx hb dX6_hangs_15 rfl (lv_at hl 1 rfl) ?_
  refine lv_iconst (v := 5) hx hb dX6_hangs_16 (by decide) ?_
  refine x_goI (wn := MW g o (mz r (upd (mZ r) 13 (1 - ((mZ r) 13))))) (x_rV (As := [.int 0, .int 5]) X (c_X6_of l g o (mz r (upd (mZ r) 13 (1 - ((mZ r) 13)))) 0 5 (by decide) (by decide)  _) yf_X6_of yi_X6_of wM_X6_56 ⟨Nat.le_of_ble_eq_true rfl, Nat.le_of_ble_eq_true rfl⟩ hP hD (p_all _) 0 rfl rfl hl rfl rfl (Nat.le_of_ble_eq_true rfl) dX6_hangs_17 ⟨Nat.zero_le _, Nat.zero_le _⟩) hP hD hS hA (p_all _) (p_back _) (fun H locs hP hD hS => ?_)
  have E : (MW g o (mz r (upd (mZ r) 13 (1 - ((mZ r) 13)))) : va_W) = MW g o (mz r (hanM 8 (mZ r))) := by rfl
  exact x_iret X hr hlocks (pw E hP) (dw E hD) hS rfl dX6_hangs_20

set_option maxHeartbeats 4000000 in
set_option maxRecDepth 100000 in
theorem c_X6_dials_0 (l : Launch) (g : wG) (o : Nat → Nat) (r : MS) (x : Int32) : CtI l g 1 yX6_dials cX6_dials 4 (some .int) [.ref (o 0), .int 0, .int x] (MW g o r) (distM (mZ r 8) x) (MW g o (mz r (upd (mZ r) 8 x))) := by
  intro sz
  refine x_enter (Qc := fun A => QI g A (distM (mZ r 8) x) (MW g o (mz r (upd (mZ r) 8 x)))) (by decide) (Nat.le_of_ble_eq_true rfl) ?_
  intro p e s m args below meth c X hr hlocks A hA hP hD hS ls hl
  obtain ⟨⟨hx, hb, hml, hown, hts⟩, hK, hN⟩ := id X
  have hl : lv_has ls 4 [(0, .ref (o 0)), (1, .int 0), (2, .int x)] := hl
  refine lv_aload_n hx hb dX6_dials_0 rfl (lv_at hl 0 rfl) ?_
  refine lv_iload_n hx hb dX6_dials_1 rfl (lv_at hl 1 rfl) ?_
  refine lv_iconst (v := 0) hx hb dX6_dials_2 (by decide) ?_
  refine x_goI (wn := MW g o r) (x_rV (As := [.int 0, .int 0]) X (c_X6_of l g o r 0 0 (by decide) (by decide)  _) yf_X6_of yi_X6_of wM_X6_56 ⟨Nat.le_of_ble_eq_true rfl, Nat.le_of_ble_eq_true rfl⟩ hP hD (p_all _) 0 rfl rfl hl rfl rfl (Nat.le_of_ble_eq_true rfl) dX6_dials_3 ⟨Nat.zero_le _, Nat.zero_le _⟩) hP hD hS hA (p_all _) (p_back _) (fun H locs hP hD hS => ?_)
  refine lv_iload_n hx hb dX6_dials_6 rfl (lv_at hl 2 rfl) ?_
  refine x_goI (wn := MW g o r) (x_rS (As := [.int ((mZ r) 8), .int x]) X (c_X6_distance l g ((mZ r) 8) x _) yf_X6_distance ys_X6_distance wM_X6_64 ⟨Nat.le_of_ble_eq_true rfl, Nat.le_of_ble_eq_true rfl⟩ hP hD (p_none _) hl rfl rfl (Nat.le_of_ble_eq_true rfl) dX6_dials_7 ⟨Nat.zero_le _, Nat.zero_le _⟩) hP hD hS hA (p_none _) (p_noneB _) (fun H locs hP hD hS => ?_)
  refine lv_istore_n (lv' := [(3, .int (distM ((mZ r) 8) x)), (0, .ref (o 0)), (1, .int 0), (2, .int x)]) hx hb dX6_dials_10 rfl hl (by decide) rfl (fun ls hl => ?_)
  refine lv_aload_n hx hb dX6_dials_11 rfl (lv_at hl 1 rfl) ?_
  refine lv_iload_n hx hb dX6_dials_12 rfl (lv_at hl 2 rfl) ?_
  refine lv_iconst (v := 0) hx hb dX6_dials_13 (by decide) ?_
  refine lv_iload_n hx hb dX6_dials_14 rfl (lv_at hl 3 rfl) ?_
  refine x_goV (wn := MW g o (mz r (upd (mZ r) 8 x))) (x_rV (As := [.int 0, .int 0, .int x]) X (c_X6_lays l g o r 0 0 (by decide) (by decide) x  _) yf_X6_lays yi_X6_lays wM_X6_29 ⟨Nat.le_of_ble_eq_true rfl, Nat.le_of_ble_eq_true rfl⟩ hP hD (p_all _) 0 rfl rfl hl rfl rfl (Nat.le_of_ble_eq_true rfl) dX6_dials_15 ⟨Nat.zero_le _, Nat.zero_le _⟩) hP hD hS hA (p_all _) (p_back _) (fun H locs hP hD hS => ?_)
  refine lv_iload_n hx hb dX6_dials_18 rfl (lv_at hl 0 rfl) ?_
  exact x_iret X hr hlocks hP hD hS rfl dX6_dials_19

set_option maxHeartbeats 4000000 in
set_option maxRecDepth 100000 in
theorem c_X6_turns_0 (l : Launch) (g : wG) (o : Nat → Nat) (r : MS) : CtI l g 1 yX6_turns cX6_turns 5 (some .int) [.ref (o 0), .int 0] (MW g o r) ((turnM 8 (mZ r)).2) (MW g o (mz r ((turnM 8 (mZ r)).1))) := by
  intro sz
  refine x_enter (Qc := fun A => QI g A ((turnM 8 (mZ r)).2) (MW g o (mz r ((turnM 8 (mZ r)).1)))) (by decide) (Nat.le_of_ble_eq_true rfl) ?_
  intro p e s m args below meth c X hr hlocks A hA hP hD hS ls hl
  obtain ⟨⟨hx, hb, hml, hown, hts⟩, hK, hN⟩ := id X
  have hl : lv_has ls 5 [(0, .ref (o 0)), (1, .int 0)] := hl
  refine lv_aload_n hx hb dX6_turns_0 rfl (lv_at hl 0 rfl) ?_
  refine lv_iload_n hx hb dX6_turns_1 rfl (lv_at hl 1 rfl) ?_
  refine lv_iconst (v := 2) hx hb dX6_turns_2 (by decide) ?_
  refine x_goI (wn := MW g o r) (x_rV (As := [.int 0, .int 2]) X (c_X6_of l g o r 0 2 (by decide) (by decide)  _) yf_X6_of yi_X6_of wM_X6_56 ⟨Nat.le_of_ble_eq_true rfl, Nat.le_of_ble_eq_true rfl⟩ hP hD (p_all _) 0 rfl rfl hl rfl rfl (Nat.le_of_ble_eq_true rfl) dX6_turns_3 ⟨Nat.zero_le _, Nat.zero_le _⟩) hP hD hS hA (p_all _) (p_back _) (fun H locs hP hD hS => ?_)
  refine lv_aload_n hx hb dX6_turns_6 rfl (lv_at hl 0 rfl) ?_
  refine x_get (v := .ref (o 1)) X 0 0 in_X6 hP rfl rfl (by decide) wF_X6_7 rfl rfl dX6_turns_7 ?_
  refine lv_iconst (v := 1) hx hb dX6_turns_10 (by decide) ?_
  refine x_iald (v := ((mZ r) 1)) X 1 1 hP rfl rfl (by decide) (Nat.le_of_ble_eq_true rfl) rfl dX6_turns_11 ?_
  refine lv_iadd hx hb dX6_turns_12 ?_
  refine lv_aload_n hx hb dX6_turns_13 rfl (lv_at hl 0 rfl) ?_
  refine lv_iload_n hx hb dX6_turns_14 rfl (lv_at hl 1 rfl) ?_
  refine lv_iconst (v := 3) hx hb dX6_turns_15 (by decide) ?_
  refine x_goI (wn := MW g o r) (x_rV (As := [.int 0, .int 3]) X (c_X6_of l g o r 0 3 (by decide) (by decide)  _) yf_X6_of yi_X6_of wM_X6_56 ⟨Nat.le_of_ble_eq_true rfl, Nat.le_of_ble_eq_true rfl⟩ hP hD (p_all _) 0 rfl rfl hl rfl rfl (Nat.le_of_ble_eq_true rfl) dX6_turns_16 ⟨Nat.zero_le _, Nat.zero_le _⟩) hP hD hS hA (p_all _) (p_back _) (fun H locs hP hD hS => ?_)
  refine lv_iadd hx hb dX6_turns_19 ?_
  refine lv_istore_n (lv' := [(2, .int ((((mZ r) 10) + ((mZ r) 1)) + ((mZ r) 11))), (0, .ref (o 0)), (1, .int 0)]) hx hb dX6_turns_20 rfl hl (by decide) rfl (fun ls hl => ?_)
  refine lv_bipush (v := 10) hx hb dX6_turns_21 (by decide) ?_
  refine lv_aload_n hx hb dX6_turns_23 rfl (lv_at hl 1 rfl) ?_
  refine lv_iload_n hx hb dX6_turns_24 rfl (lv_at hl 2 rfl) ?_
  refine lv_iconst (v := 1) hx hb dX6_turns_25 (by decide) ?_
  refine x_goI (wn := MW g o r) (x_rV (As := [.int 0, .int 1]) X (c_X6_of l g o r 0 1 (by decide) (by decide)  _) yf_X6_of yi_X6_of wM_X6_56 ⟨Nat.le_of_ble_eq_true rfl, Nat.le_of_ble_eq_true rfl⟩ hP hD (p_all _) 0 rfl rfl hl rfl rfl (Nat.le_of_ble_eq_true rfl) dX6_turns_26 ⟨Nat.zero_le _, Nat.zero_le _⟩) hP hD hS hA (p_all _) (p_back _) (fun H locs hP hD hS => ?_)
  refine lv_imul hx hb dX6_turns_29 ?_
  refine lv_istore_n (lv' := [(3, .int (10 * ((mZ r) 9))), (2, .int ((((mZ r) 10) + ((mZ r) 1)) + ((mZ r) 11))), (0, .ref (o 0)), (1, .int 0)]) hx hb dX6_turns_30 rfl hl (by decide) rfl (fun ls hl => ?_)
  refine lv_iload_n hx hb dX6_turns_31 rfl (lv_at hl 1 rfl) ?_
  refine lv_iload_n hx hb dX6_turns_32 rfl (lv_at hl 0 rfl) ?_
  refine lv_icmp_lt (tgt := 97) hx hb dX6_turns_33 (by decide) (fun (c_1 : ((((mZ r) 10) + ((mZ r) 1)) + ((mZ r) 11)) < (10 * ((mZ r) 9))) => ?_) (fun (c_1 : ¬ ((((mZ r) 10) + ((mZ r) 1)) + ((mZ r) 11)) < (10 * ((mZ r) 9))) => ?_)
  · refine lv_aload_n hx hb dX6_turns_97 rfl (lv_at hl 2 rfl) ?_
    refine lv_iload_n hx hb dX6_turns_98 rfl (lv_at hl 3 rfl) ?_
    refine lv_iconst (v := 2) hx hb dX6_turns_99 (by decide) ?_
    refine lv_iload_n hx hb dX6_turns_100 rfl (lv_at hl 1 rfl) ?_
    refine x_goV (wn := MW g o (mz r (upd (mZ r) 10 ((((mZ r) 10) + ((mZ r) 1)) + ((mZ r) 11))))) (x_rV (As := [.int 0, .int 2, .int ((((mZ r) 10) + ((mZ r) 1)) + ((mZ r) 11))]) X (c_X6_lays l g o r 0 2 (by decide) (by decide) ((((mZ r) 10) + ((mZ r) 1)) + ((mZ r) 11))  _) yf_X6_lays yi_X6_lays wM_X6_29 ⟨Nat.le_of_ble_eq_true rfl, Nat.le_of_ble_eq_true rfl⟩ hP hD (p_all _) 0 rfl rfl hl rfl rfl (Nat.le_of_ble_eq_true rfl) dX6_turns_101 ⟨Nat.zero_le _, Nat.zero_le _⟩) hP hD hS hA (p_all _) (p_back _) (fun H locs hP hD hS => ?_)
    refine lv_aload_n hx hb dX6_turns_104 rfl (lv_at hl 2 rfl) ?_
    refine lv_iload_n hx hb dX6_turns_105 rfl (lv_at hl 3 rfl) ?_
    refine lv_iconst (v := 0) hx hb dX6_turns_106 (by decide) ?_
    refine lv_aload_n hx hb dX6_turns_107 rfl (lv_at hl 2 rfl) ?_
    refine lv_iload_n hx hb dX6_turns_108 rfl (lv_at hl 3 rfl) ?_
    refine lv_iconst (v := 0) hx hb dX6_turns_109 (by decide) ?_
    refine x_goI (wn := MW g o (mz r (upd (mZ r) 10 ((((mZ r) 10) + ((mZ r) 1)) + ((mZ r) 11))))) (x_rV (As := [.int 0, .int 0]) X (c_X6_of l g o (mz r (upd (mZ r) 10 ((((mZ r) 10) + ((mZ r) 1)) + ((mZ r) 11)))) 0 0 (by decide) (by decide)  _) yf_X6_of yi_X6_of wM_X6_56 ⟨Nat.le_of_ble_eq_true rfl, Nat.le_of_ble_eq_true rfl⟩ hP hD (p_all _) 0 rfl rfl hl rfl rfl (Nat.le_of_ble_eq_true rfl) dX6_turns_110 ⟨Nat.zero_le _, Nat.zero_le _⟩) hP hD hS hA (p_all _) (p_back _) (fun H locs hP hD hS => ?_)
    refine lv_iconst (v := 1) hx hb dX6_turns_113 (by decide) ?_
    refine lv_iadd hx hb dX6_turns_114 ?_
    refine lv_sipush (v := 720) hx hb dX6_turns_115 (by decide) ?_
    refine lv_irem hx hb dX6_turns_118 (by decide) ?_
    refine x_goV (wn := MW g o (mz r (upd (upd (mZ r) 10 ((((mZ r) 10) + ((mZ r) 1)) + ((mZ r) 11))) 8 (jrem (((mZ r) 8) + 1) 720)))) (x_rV (As := [.int 0, .int 0, .int (jrem (((mZ r) 8) + 1) 720)]) X (c_X6_lays l g o (mz r (upd (mZ r) 10 ((((mZ r) 10) + ((mZ r) 1)) + ((mZ r) 11)))) 0 0 (by decide) (by decide) (jrem (((mZ r) 8) + 1) 720)  _) yf_X6_lays yi_X6_lays wM_X6_29 ⟨Nat.le_of_ble_eq_true rfl, Nat.le_of_ble_eq_true rfl⟩ hP hD (p_all _) 0 rfl rfl hl rfl rfl (Nat.le_of_ble_eq_true rfl) dX6_turns_119 ⟨Nat.zero_le _, Nat.zero_le _⟩) hP hD hS hA (p_all _) (p_back _) (fun H locs hP hD hS => ?_)
    refine lv_aload_n hx hb dX6_turns_122 rfl (lv_at hl 2 rfl) ?_
    refine lv_iload_n hx hb dX6_turns_123 rfl (lv_at hl 3 rfl) ?_
    refine lv_iconst (v := 5) hx hb dX6_turns_124 (by decide) ?_
    refine x_goI (wn := MW g o (mz r (upd (upd (mZ r) 10 ((((mZ r) 10) + ((mZ r) 1)) + ((mZ r) 11))) 8 (jrem (((mZ r) 8) + 1) 720)))) (x_rV (As := [.int 0, .int 5]) X (c_X6_of l g o (mz r (upd (upd (mZ r) 10 ((((mZ r) 10) + ((mZ r) 1)) + ((mZ r) 11))) 8 (jrem (((mZ r) 8) + 1) 720))) 0 5 (by decide) (by decide)  _) yf_X6_of yi_X6_of wM_X6_56 ⟨Nat.le_of_ble_eq_true rfl, Nat.le_of_ble_eq_true rfl⟩ hP hD (p_all _) 0 rfl rfl hl rfl rfl (Nat.le_of_ble_eq_true rfl) dX6_turns_125 ⟨Nat.zero_le _, Nat.zero_le _⟩) hP hD hS hA (p_all _) (p_back _) (fun H locs hP hD hS => ?_)
    refine lv_iconst (v := 1) hx hb dX6_turns_128 (by decide) ?_
    refine lv_icmp_ne (tgt := 144) hx hb dX6_turns_129 (by decide) (fun (c_2 : ¬ ((mZ r) 13) = 1) => ?_) (fun (c_2 : ((mZ r) 13) = 1) => ?_)
    · refine lv_iconst (v := 0) hx hb dX6_turns_144 (by decide) ?_
      refine lv_istore (lv' := [(4, .int 0), (3, .int (10 * ((mZ r) 9))), (2, .int ((((mZ r) 10) + ((mZ r) 1)) + ((mZ r) 11))), (0, .ref (o 0)), (1, .int 0)]) hx hb dX6_turns_145 hl (by decide) rfl (fun ls hl => ?_)
      refine lv_aload_n hx hb dX6_turns_147 rfl (lv_at hl 3 rfl) ?_
      refine lv_iload_n hx hb dX6_turns_148 rfl (lv_at hl 4 rfl) ?_
      refine lv_bipush (v := 6) hx hb dX6_turns_149 (by decide) ?_
      refine lv_aload_n hx hb dX6_turns_151 rfl (lv_at hl 3 rfl) ?_
      refine lv_iload_n hx hb dX6_turns_152 rfl (lv_at hl 4 rfl) ?_
      refine lv_bipush (v := 6) hx hb dX6_turns_153 (by decide) ?_
      refine x_goI (wn := MW g o (mz r (upd (upd (mZ r) 10 ((((mZ r) 10) + ((mZ r) 1)) + ((mZ r) 11))) 8 (jrem (((mZ r) 8) + 1) 720)))) (x_rV (As := [.int 0, .int 6]) X (c_X6_of l g o (mz r (upd (upd (mZ r) 10 ((((mZ r) 10) + ((mZ r) 1)) + ((mZ r) 11))) 8 (jrem (((mZ r) 8) + 1) 720))) 0 6 (by decide) (by decide)  _) yf_X6_of yi_X6_of wM_X6_56 ⟨Nat.le_of_ble_eq_true rfl, Nat.le_of_ble_eq_true rfl⟩ hP hD (p_all _) 0 rfl rfl hl rfl rfl (Nat.le_of_ble_eq_true rfl) dX6_turns_155 ⟨Nat.zero_le _, Nat.zero_le _⟩) hP hD hS hA (p_all _) (p_back _) (fun H locs hP hD hS => ?_)
      refine lv_iload hx hb dX6_turns_158 (lv_at hl 0 rfl) ?_
      refine lv_iadd hx hb dX6_turns_160 ?_
      refine x_goV (wn := MW g o (mz r (upd (upd (upd (mZ r) 10 ((((mZ r) 10) + ((mZ r) 1)) + ((mZ r) 11))) 8 (jrem (((mZ r) 8) + 1) 720)) 14 (((mZ r) 14) + 0)))) (x_rV (As := [.int 0, .int 6, .int (((mZ r) 14) + 0)]) X (c_X6_lays l g o (mz r (upd (upd (mZ r) 10 ((((mZ r) 10) + ((mZ r) 1)) + ((mZ r) 11))) 8 (jrem (((mZ r) 8) + 1) 720))) 0 6 (by decide) (by decide) (((mZ r) 14) + 0)  _) yf_X6_lays yi_X6_lays wM_X6_29 ⟨Nat.le_of_ble_eq_true rfl, Nat.le_of_ble_eq_true rfl⟩ hP hD (p_all _) 0 rfl rfl hl rfl rfl (Nat.le_of_ble_eq_true rfl) dX6_turns_161 ⟨Nat.zero_le _, Nat.zero_le _⟩) hP hD hS hA (p_all _) (p_back _) (fun H locs hP hD hS => ?_)
      refine lv_iload hx hb dX6_turns_164 (lv_at hl 0 rfl) ?_
      have E : (MW g o (mz r (upd (upd (upd (mZ r) 10 ((((mZ r) 10) + ((mZ r) 1)) + ((mZ r) 11))) 8 (jrem (((mZ r) 8) + 1) 720)) 14 (((mZ r) 14) + 0))) : va_W) = MW g o (mz r ((turnM 8 (mZ r)).1)) := by (simp only [turnM, ssM, stM, if_pos c_1, if_neg c_2]) <;> rfl
      exact x_iret X hr hlocks (pw E hP) (dw E hD) hS (by (simp only [turnM, ssM, stM, if_pos c_1, if_neg c_2]) <;> rfl) dX6_turns_166
    · refine lv_aload_n hx hb dX6_turns_132 rfl (lv_at hl 2 rfl) ?_
      refine lv_iload_n hx hb dX6_turns_133 rfl (lv_at hl 3 rfl) ?_
      refine lv_iconst (v := 0) hx hb dX6_turns_134 (by decide) ?_
      refine x_goI (wn := MW g o (mz r (upd (upd (mZ r) 10 ((((mZ r) 10) + ((mZ r) 1)) + ((mZ r) 11))) 8 (jrem (((mZ r) 8) + 1) 720)))) (x_rV (As := [.int 0, .int 0]) X (c_X6_of l g o (mz r (upd (upd (mZ r) 10 ((((mZ r) 10) + ((mZ r) 1)) + ((mZ r) 11))) 8 (jrem (((mZ r) 8) + 1) 720))) 0 0 (by decide) (by decide)  _) yf_X6_of yi_X6_of wM_X6_56 ⟨Nat.le_of_ble_eq_true rfl, Nat.le_of_ble_eq_true rfl⟩ hP hD (p_all _) 0 rfl rfl hl rfl rfl (Nat.le_of_ble_eq_true rfl) dX6_turns_135 ⟨Nat.zero_le _, Nat.zero_le _⟩) hP hD hS hA (p_all _) (p_back _) (fun H locs hP hD hS => ?_)
      refine x_goI (wn := MW g o (mz r (upd (upd (mZ r) 10 ((((mZ r) 10) + ((mZ r) 1)) + ((mZ r) 11))) 8 (jrem (((mZ r) 8) + 1) 720)))) (x_rS (As := [.int (jrem (((mZ r) 8) + 1) 720)]) X (c_X6_strikesAt l g (jrem (((mZ r) 8) + 1) 720) _) yf_X6_strikesAt ys_X6_strikesAt wM_X6_73 ⟨Nat.le_of_ble_eq_true rfl, Nat.le_of_ble_eq_true rfl⟩ hP hD (p_none _) hl rfl rfl (Nat.le_of_ble_eq_true rfl) dX6_turns_138 ⟨Nat.zero_le _, Nat.zero_le _⟩) hP hD hS hA (p_none _) (p_noneB _) (fun H locs hP hD hS => ?_)
      refine lv_goto (tgt := 145) hx hb dX6_turns_141 (by decide) ?_
      refine lv_istore (lv' := [(4, .int (strM (jrem (((mZ r) 8) + 1) 720))), (3, .int (10 * ((mZ r) 9))), (2, .int ((((mZ r) 10) + ((mZ r) 1)) + ((mZ r) 11))), (0, .ref (o 0)), (1, .int 0)]) hx hb dX6_turns_145 hl (by decide) rfl (fun ls hl => ?_)
      refine lv_aload_n hx hb dX6_turns_147 rfl (lv_at hl 3 rfl) ?_
      refine lv_iload_n hx hb dX6_turns_148 rfl (lv_at hl 4 rfl) ?_
      refine lv_bipush (v := 6) hx hb dX6_turns_149 (by decide) ?_
      refine lv_aload_n hx hb dX6_turns_151 rfl (lv_at hl 3 rfl) ?_
      refine lv_iload_n hx hb dX6_turns_152 rfl (lv_at hl 4 rfl) ?_
      refine lv_bipush (v := 6) hx hb dX6_turns_153 (by decide) ?_
      refine x_goI (wn := MW g o (mz r (upd (upd (mZ r) 10 ((((mZ r) 10) + ((mZ r) 1)) + ((mZ r) 11))) 8 (jrem (((mZ r) 8) + 1) 720)))) (x_rV (As := [.int 0, .int 6]) X (c_X6_of l g o (mz r (upd (upd (mZ r) 10 ((((mZ r) 10) + ((mZ r) 1)) + ((mZ r) 11))) 8 (jrem (((mZ r) 8) + 1) 720))) 0 6 (by decide) (by decide)  _) yf_X6_of yi_X6_of wM_X6_56 ⟨Nat.le_of_ble_eq_true rfl, Nat.le_of_ble_eq_true rfl⟩ hP hD (p_all _) 0 rfl rfl hl rfl rfl (Nat.le_of_ble_eq_true rfl) dX6_turns_155 ⟨Nat.zero_le _, Nat.zero_le _⟩) hP hD hS hA (p_all _) (p_back _) (fun H locs hP hD hS => ?_)
      refine lv_iload hx hb dX6_turns_158 (lv_at hl 0 rfl) ?_
      refine lv_iadd hx hb dX6_turns_160 ?_
      refine x_goV (wn := MW g o (mz r (upd (upd (upd (mZ r) 10 ((((mZ r) 10) + ((mZ r) 1)) + ((mZ r) 11))) 8 (jrem (((mZ r) 8) + 1) 720)) 14 (((mZ r) 14) + (strM (jrem (((mZ r) 8) + 1) 720)))))) (x_rV (As := [.int 0, .int 6, .int (((mZ r) 14) + (strM (jrem (((mZ r) 8) + 1) 720)))]) X (c_X6_lays l g o (mz r (upd (upd (mZ r) 10 ((((mZ r) 10) + ((mZ r) 1)) + ((mZ r) 11))) 8 (jrem (((mZ r) 8) + 1) 720))) 0 6 (by decide) (by decide) (((mZ r) 14) + (strM (jrem (((mZ r) 8) + 1) 720)))  _) yf_X6_lays yi_X6_lays wM_X6_29 ⟨Nat.le_of_ble_eq_true rfl, Nat.le_of_ble_eq_true rfl⟩ hP hD (p_all _) 0 rfl rfl hl rfl rfl (Nat.le_of_ble_eq_true rfl) dX6_turns_161 ⟨Nat.zero_le _, Nat.zero_le _⟩) hP hD hS hA (p_all _) (p_back _) (fun H locs hP hD hS => ?_)
      refine lv_iload hx hb dX6_turns_164 (lv_at hl 0 rfl) ?_
      have E : (MW g o (mz r (upd (upd (upd (mZ r) 10 ((((mZ r) 10) + ((mZ r) 1)) + ((mZ r) 11))) 8 (jrem (((mZ r) 8) + 1) 720)) 14 (((mZ r) 14) + (strM (jrem (((mZ r) 8) + 1) 720))))) : va_W) = MW g o (mz r ((turnM 8 (mZ r)).1)) := by (simp only [turnM, ssM, stM, if_pos c_1, if_pos c_2]) <;> rfl
      exact x_iret X hr hlocks (pw E hP) (dw E hD) hS (by (simp only [turnM, ssM, stM, if_pos c_1, if_pos c_2]) <;> rfl) dX6_turns_166
  · refine lv_aload_n hx hb dX6_turns_36 rfl (lv_at hl 2 rfl) ?_
    refine lv_iload_n hx hb dX6_turns_37 rfl (lv_at hl 3 rfl) ?_
    refine lv_iconst (v := 2) hx hb dX6_turns_38 (by decide) ?_
    refine lv_iload_n hx hb dX6_turns_39 rfl (lv_at hl 1 rfl) ?_
    refine lv_iload_n hx hb dX6_turns_40 rfl (lv_at hl 0 rfl) ?_
    refine lv_isub hx hb dX6_turns_41 ?_
    refine x_goV (wn := MW g o (mz r (upd (mZ r) 10 (((((mZ r) 10) + ((mZ r) 1)) + ((mZ r) 11)) - (10 * ((mZ r) 9)))))) (x_rV (As := [.int 0, .int 2, .int (((((mZ r) 10) + ((mZ r) 1)) + ((mZ r) 11)) - (10 * ((mZ r) 9)))]) X (c_X6_lays l g o r 0 2 (by decide) (by decide) (((((mZ r) 10) + ((mZ r) 1)) + ((mZ r) 11)) - (10 * ((mZ r) 9)))  _) yf_X6_lays yi_X6_lays wM_X6_29 ⟨Nat.le_of_ble_eq_true rfl, Nat.le_of_ble_eq_true rfl⟩ hP hD (p_all _) 0 rfl rfl hl rfl rfl (Nat.le_of_ble_eq_true rfl) dX6_turns_42 ⟨Nat.zero_le _, Nat.zero_le _⟩) hP hD hS hA (p_all _) (p_back _) (fun H locs hP hD hS => ?_)
    refine lv_aload_n hx hb dX6_turns_45 rfl (lv_at hl 2 rfl) ?_
    refine lv_iload_n hx hb dX6_turns_46 rfl (lv_at hl 3 rfl) ?_
    refine lv_iconst (v := 4) hx hb dX6_turns_47 (by decide) ?_
    refine lv_aload_n hx hb dX6_turns_48 rfl (lv_at hl 2 rfl) ?_
    refine lv_iload_n hx hb dX6_turns_49 rfl (lv_at hl 3 rfl) ?_
    refine lv_iconst (v := 4) hx hb dX6_turns_50 (by decide) ?_
    refine x_goI (wn := MW g o (mz r (upd (mZ r) 10 (((((mZ r) 10) + ((mZ r) 1)) + ((mZ r) 11)) - (10 * ((mZ r) 9)))))) (x_rV (As := [.int 0, .int 4]) X (c_X6_of l g o (mz r (upd (mZ r) 10 (((((mZ r) 10) + ((mZ r) 1)) + ((mZ r) 11)) - (10 * ((mZ r) 9))))) 0 4 (by decide) (by decide)  _) yf_X6_of yi_X6_of wM_X6_56 ⟨Nat.le_of_ble_eq_true rfl, Nat.le_of_ble_eq_true rfl⟩ hP hD (p_all _) 0 rfl rfl hl rfl rfl (Nat.le_of_ble_eq_true rfl) dX6_turns_51 ⟨Nat.zero_le _, Nat.zero_le _⟩) hP hD hS hA (p_all _) (p_back _) (fun H locs hP hD hS => ?_)
    refine lv_iconst (v := 1) hx hb dX6_turns_54 (by decide) ?_
    refine lv_iadd hx hb dX6_turns_55 ?_
    refine x_goV (wn := MW g o (mz r (upd (upd (mZ r) 10 (((((mZ r) 10) + ((mZ r) 1)) + ((mZ r) 11)) - (10 * ((mZ r) 9)))) 12 (((mZ r) 12) + 1)))) (x_rV (As := [.int 0, .int 4, .int (((mZ r) 12) + 1)]) X (c_X6_lays l g o (mz r (upd (mZ r) 10 (((((mZ r) 10) + ((mZ r) 1)) + ((mZ r) 11)) - (10 * ((mZ r) 9))))) 0 4 (by decide) (by decide) (((mZ r) 12) + 1)  _) yf_X6_lays yi_X6_lays wM_X6_29 ⟨Nat.le_of_ble_eq_true rfl, Nat.le_of_ble_eq_true rfl⟩ hP hD (p_all _) 0 rfl rfl hl rfl rfl (Nat.le_of_ble_eq_true rfl) dX6_turns_56 ⟨Nat.zero_le _, Nat.zero_le _⟩) hP hD hS hA (p_all _) (p_back _) (fun H locs hP hD hS => ?_)
    refine lv_aload_n hx hb dX6_turns_59 rfl (lv_at hl 2 rfl) ?_
    refine lv_iload_n hx hb dX6_turns_60 rfl (lv_at hl 3 rfl) ?_
    refine lv_iconst (v := 4) hx hb dX6_turns_61 (by decide) ?_
    refine x_goI (wn := MW g o (mz r (upd (upd (mZ r) 10 (((((mZ r) 10) + ((mZ r) 1)) + ((mZ r) 11)) - (10 * ((mZ r) 9)))) 12 (((mZ r) 12) + 1)))) (x_rV (As := [.int 0, .int 4]) X (c_X6_of l g o (mz r (upd (upd (mZ r) 10 (((((mZ r) 10) + ((mZ r) 1)) + ((mZ r) 11)) - (10 * ((mZ r) 9)))) 12 (((mZ r) 12) + 1))) 0 4 (by decide) (by decide)  _) yf_X6_of yi_X6_of wM_X6_56 ⟨Nat.le_of_ble_eq_true rfl, Nat.le_of_ble_eq_true rfl⟩ hP hD (p_all _) 0 rfl rfl hl rfl rfl (Nat.le_of_ble_eq_true rfl) dX6_turns_62 ⟨Nat.zero_le _, Nat.zero_le _⟩) hP hD hS hA (p_all _) (p_back _) (fun H locs hP hD hS => ?_)
    refine lv_iconst (v := 3) hx hb dX6_turns_65 (by decide) ?_
    refine lv_irem hx hb dX6_turns_66 (by decide) ?_
    refine lv_if_ne (tgt := 95) hx hb dX6_turns_67 (by decide) (fun (c_3 : ¬ (jrem (((mZ r) 12) + 1) 3) = 0) => ?_) (fun (c_3 : (jrem (((mZ r) 12) + 1) 3) = 0) => ?_)
    · refine lv_iconst (v := 0) hx hb dX6_turns_95 (by decide) ?_
      have E : (MW g o (mz r (upd (upd (mZ r) 10 (((((mZ r) 10) + ((mZ r) 1)) + ((mZ r) 11)) - (10 * ((mZ r) 9)))) 12 (((mZ r) 12) + 1))) : va_W) = MW g o (mz r ((turnM 8 (mZ r)).1)) := by (simp only [turnM, ssM, stM, if_neg c_1, if_neg c_3]) <;> rfl
      exact x_iret X hr hlocks (pw E hP) (dw E hD) hS (by (simp only [turnM, ssM, stM, if_neg c_1, if_neg c_3]) <;> rfl) dX6_turns_96
    · refine lv_aload_n hx hb dX6_turns_70 rfl (lv_at hl 2 rfl) ?_
      refine lv_iload_n hx hb dX6_turns_71 rfl (lv_at hl 3 rfl) ?_
      refine lv_iconst (v := 3) hx hb dX6_turns_72 (by decide) ?_
      refine x_goI (wn := MW g o (mz r (upd (upd (mZ r) 10 (((((mZ r) 10) + ((mZ r) 1)) + ((mZ r) 11)) - (10 * ((mZ r) 9)))) 12 (((mZ r) 12) + 1)))) (x_rV (As := [.int 0, .int 3]) X (c_X6_of l g o (mz r (upd (upd (mZ r) 10 (((((mZ r) 10) + ((mZ r) 1)) + ((mZ r) 11)) - (10 * ((mZ r) 9)))) 12 (((mZ r) 12) + 1))) 0 3 (by decide) (by decide)  _) yf_X6_of yi_X6_of wM_X6_56 ⟨Nat.le_of_ble_eq_true rfl, Nat.le_of_ble_eq_true rfl⟩ hP hD (p_all _) 0 rfl rfl hl rfl rfl (Nat.le_of_ble_eq_true rfl) dX6_turns_73 ⟨Nat.zero_le _, Nat.zero_le _⟩) hP hD hS hA (p_all _) (p_back _) (fun H locs hP hD hS => ?_)
      refine lv_bipush (v := 9) hx hb dX6_turns_76 (by decide) ?_
      refine lv_icmp_ge (tgt := 95) hx hb dX6_turns_78 (by decide) (fun (c_4 : 9 ≤ ((mZ r) 11)) => ?_) (fun (c_4 : ¬ 9 ≤ ((mZ r) 11)) => ?_)
      · refine lv_iconst (v := 0) hx hb dX6_turns_95 (by decide) ?_
        have E : (MW g o (mz r (upd (upd (mZ r) 10 (((((mZ r) 10) + ((mZ r) 1)) + ((mZ r) 11)) - (10 * ((mZ r) 9)))) 12 (((mZ r) 12) + 1))) : va_W) = MW g o (mz r ((turnM 8 (mZ r)).1)) := by (simp only [turnM, ssM, stM, if_neg c_1, if_pos c_3, if_pos c_4]) <;> rfl
        exact x_iret X hr hlocks (pw E hP) (dw E hD) hS (by (simp only [turnM, ssM, stM, if_neg c_1, if_pos c_3, if_pos c_4]) <;> rfl) dX6_turns_96
      · refine lv_aload_n hx hb dX6_turns_81 rfl (lv_at hl 2 rfl) ?_
        refine lv_iload_n hx hb dX6_turns_82 rfl (lv_at hl 3 rfl) ?_
        refine lv_iconst (v := 3) hx hb dX6_turns_83 (by decide) ?_
        refine lv_aload_n hx hb dX6_turns_84 rfl (lv_at hl 2 rfl) ?_
        refine lv_iload_n hx hb dX6_turns_85 rfl (lv_at hl 3 rfl) ?_
        refine lv_iconst (v := 3) hx hb dX6_turns_86 (by decide) ?_
        refine x_goI (wn := MW g o (mz r (upd (upd (mZ r) 10 (((((mZ r) 10) + ((mZ r) 1)) + ((mZ r) 11)) - (10 * ((mZ r) 9)))) 12 (((mZ r) 12) + 1)))) (x_rV (As := [.int 0, .int 3]) X (c_X6_of l g o (mz r (upd (upd (mZ r) 10 (((((mZ r) 10) + ((mZ r) 1)) + ((mZ r) 11)) - (10 * ((mZ r) 9)))) 12 (((mZ r) 12) + 1))) 0 3 (by decide) (by decide)  _) yf_X6_of yi_X6_of wM_X6_56 ⟨Nat.le_of_ble_eq_true rfl, Nat.le_of_ble_eq_true rfl⟩ hP hD (p_all _) 0 rfl rfl hl rfl rfl (Nat.le_of_ble_eq_true rfl) dX6_turns_87 ⟨Nat.zero_le _, Nat.zero_le _⟩) hP hD hS hA (p_all _) (p_back _) (fun H locs hP hD hS => ?_)
        refine lv_iconst (v := 1) hx hb dX6_turns_90 (by decide) ?_
        refine lv_iadd hx hb dX6_turns_91 ?_
        refine x_goV (wn := MW g o (mz r (upd (upd (upd (mZ r) 10 (((((mZ r) 10) + ((mZ r) 1)) + ((mZ r) 11)) - (10 * ((mZ r) 9)))) 12 (((mZ r) 12) + 1)) 11 (((mZ r) 11) + 1)))) (x_rV (As := [.int 0, .int 3, .int (((mZ r) 11) + 1)]) X (c_X6_lays l g o (mz r (upd (upd (mZ r) 10 (((((mZ r) 10) + ((mZ r) 1)) + ((mZ r) 11)) - (10 * ((mZ r) 9)))) 12 (((mZ r) 12) + 1))) 0 3 (by decide) (by decide) (((mZ r) 11) + 1)  _) yf_X6_lays yi_X6_lays wM_X6_29 ⟨Nat.le_of_ble_eq_true rfl, Nat.le_of_ble_eq_true rfl⟩ hP hD (p_all _) 0 rfl rfl hl rfl rfl (Nat.le_of_ble_eq_true rfl) dX6_turns_92 ⟨Nat.zero_le _, Nat.zero_le _⟩) hP hD hS hA (p_all _) (p_back _) (fun H locs hP hD hS => ?_)
        refine lv_iconst (v := 0) hx hb dX6_turns_95 (by decide) ?_
        have E : (MW g o (mz r (upd (upd (upd (mZ r) 10 (((((mZ r) 10) + ((mZ r) 1)) + ((mZ r) 11)) - (10 * ((mZ r) 9)))) 12 (((mZ r) 12) + 1)) 11 (((mZ r) 11) + 1))) : va_W) = MW g o (mz r ((turnM 8 (mZ r)).1)) := by (simp only [turnM, ssM, stM, if_neg c_1, if_pos c_3, if_neg c_4]) <;> rfl
        exact x_iret X hr hlocks (pw E hP) (dw E hD) hS (by (simp only [turnM, ssM, stM, if_neg c_1, if_pos c_3, if_neg c_4]) <;> rfl) dX6_turns_96

set_option maxHeartbeats 4000000 in
set_option maxRecDepth 100000 in
theorem c_X6_oils_1 (l : Launch) (g : wG) (o : Nat → Nat) (r : MS) : CtI l g 1 yX6_oils cX6_oils 2 (some .int) [.ref (o 0), .int 1] (MW g o r) (oilMR 15 (mZ r)) (MW g o (mz r (oilM 15 (mZ r)))) := by
  intro sz
  refine x_enter (Qc := fun A => QI g A (oilMR 15 (mZ r)) (MW g o (mz r (oilM 15 (mZ r))))) (by decide) (Nat.le_of_ble_eq_true rfl) ?_
  intro p e s m args below meth c X hr hlocks A hA hP hD hS ls hl
  obtain ⟨⟨hx, hb, hml, hown, hts⟩, hK, hN⟩ := id X
  have hl : lv_has ls 2 [(0, .ref (o 0)), (1, .int 1)] := hl
  refine lv_aload_n hx hb dX6_oils_0 rfl (lv_at hl 0 rfl) ?_
  refine lv_iload_n hx hb dX6_oils_1 rfl (lv_at hl 1 rfl) ?_
  refine lv_iconst (v := 3) hx hb dX6_oils_2 (by decide) ?_
  refine lv_aload_n hx hb dX6_oils_3 rfl (lv_at hl 0 rfl) ?_
  refine lv_iload_n hx hb dX6_oils_4 rfl (lv_at hl 1 rfl) ?_
  refine lv_iconst (v := 3) hx hb dX6_oils_5 (by decide) ?_
  refine x_goI (wn := MW g o r) (x_rV (As := [.int 1, .int 3]) X (c_X6_of l g o r 1 3 (by decide) (by decide)  _) yf_X6_of yi_X6_of wM_X6_56 ⟨Nat.le_of_ble_eq_true rfl, Nat.le_of_ble_eq_true rfl⟩ hP hD (p_all _) 0 rfl rfl hl rfl rfl (Nat.le_of_ble_eq_true rfl) dX6_oils_6 ⟨Nat.zero_le _, Nat.zero_le _⟩) hP hD hS hA (p_all _) (p_back _) (fun H locs hP hD hS => ?_)
  refine lv_if_le (tgt := 23) hx hb dX6_oils_9 (by decide) (fun (c_1 : ((mZ r) 18) ≤ 0) => ?_) (fun (c_1 : ¬ ((mZ r) 18) ≤ 0) => ?_)
  · refine lv_iconst (v := 0) hx hb dX6_oils_23 (by decide) ?_
    refine x_goV (wn := MW g o (mz r (upd (mZ r) 18 0))) (x_rV (As := [.int 1, .int 3, .int 0]) X (c_X6_lays l g o r 1 3 (by decide) (by decide) 0  _) yf_X6_lays yi_X6_lays wM_X6_29 ⟨Nat.le_of_ble_eq_true rfl, Nat.le_of_ble_eq_true rfl⟩ hP hD (p_all _) 0 rfl rfl hl rfl rfl (Nat.le_of_ble_eq_true rfl) dX6_oils_24 ⟨Nat.zero_le _, Nat.zero_le _⟩) hP hD hS hA (p_all _) (p_back _) (fun H locs hP hD hS => ?_)
    refine lv_aload_n hx hb dX6_oils_27 rfl (lv_at hl 0 rfl) ?_
    refine lv_iload_n hx hb dX6_oils_28 rfl (lv_at hl 1 rfl) ?_
    refine lv_iconst (v := 2) hx hb dX6_oils_29 (by decide) ?_
    refine lv_iconst (v := 0) hx hb dX6_oils_30 (by decide) ?_
    refine x_goV (wn := MW g o (mz r (upd (upd (mZ r) 18 0) 17 0))) (x_rV (As := [.int 1, .int 2, .int 0]) X (c_X6_lays l g o (mz r (upd (mZ r) 18 0)) 1 2 (by decide) (by decide) 0  _) yf_X6_lays yi_X6_lays wM_X6_29 ⟨Nat.le_of_ble_eq_true rfl, Nat.le_of_ble_eq_true rfl⟩ hP hD (p_all _) 0 rfl rfl hl rfl rfl (Nat.le_of_ble_eq_true rfl) dX6_oils_31 ⟨Nat.zero_le _, Nat.zero_le _⟩) hP hD hS hA (p_all _) (p_back _) (fun H locs hP hD hS => ?_)
    refine lv_aload_n hx hb dX6_oils_34 rfl (lv_at hl 0 rfl) ?_
    refine lv_iload_n hx hb dX6_oils_35 rfl (lv_at hl 1 rfl) ?_
    refine lv_iconst (v := 3) hx hb dX6_oils_36 (by decide) ?_
    refine x_goI (wn := MW g o (mz r (upd (upd (mZ r) 18 0) 17 0))) (x_rV (As := [.int 1, .int 3]) X (c_X6_of l g o (mz r (upd (upd (mZ r) 18 0) 17 0)) 1 3 (by decide) (by decide)  _) yf_X6_of yi_X6_of wM_X6_56 ⟨Nat.le_of_ble_eq_true rfl, Nat.le_of_ble_eq_true rfl⟩ hP hD (p_all _) 0 rfl rfl hl rfl rfl (Nat.le_of_ble_eq_true rfl) dX6_oils_37 ⟨Nat.zero_le _, Nat.zero_le _⟩) hP hD hS hA (p_all _) (p_back _) (fun H locs hP hD hS => ?_)
    have E : (MW g o (mz r (upd (upd (mZ r) 18 0) 17 0)) : va_W) = MW g o (mz r (oilM 15 (mZ r))) := by (simp only [oilM, oilMR, if_pos c_1]) <;> rfl
    exact x_iret X hr hlocks (pw E hP) (dw E hD) hS (by (simp only [oilM, oilMR, if_pos c_1]) <;> rfl) dX6_oils_40
  · refine lv_aload_n hx hb dX6_oils_12 rfl (lv_at hl 0 rfl) ?_
    refine lv_iload_n hx hb dX6_oils_13 rfl (lv_at hl 1 rfl) ?_
    refine lv_iconst (v := 3) hx hb dX6_oils_14 (by decide) ?_
    refine x_goI (wn := MW g o r) (x_rV (As := [.int 1, .int 3]) X (c_X6_of l g o r 1 3 (by decide) (by decide)  _) yf_X6_of yi_X6_of wM_X6_56 ⟨Nat.le_of_ble_eq_true rfl, Nat.le_of_ble_eq_true rfl⟩ hP hD (p_all _) 0 rfl rfl hl rfl rfl (Nat.le_of_ble_eq_true rfl) dX6_oils_15 ⟨Nat.zero_le _, Nat.zero_le _⟩) hP hD hS hA (p_all _) (p_back _) (fun H locs hP hD hS => ?_)
    refine lv_iconst (v := 1) hx hb dX6_oils_18 (by decide) ?_
    refine lv_isub hx hb dX6_oils_19 ?_
    refine lv_goto (tgt := 24) hx hb dX6_oils_20 (by decide) ?_
    refine x_goV (wn := MW g o (mz r (upd (mZ r) 18 (((mZ r) 18) - 1)))) (x_rV (As := [.int 1, .int 3, .int (((mZ r) 18) - 1)]) X (c_X6_lays l g o r 1 3 (by decide) (by decide) (((mZ r) 18) - 1)  _) yf_X6_lays yi_X6_lays wM_X6_29 ⟨Nat.le_of_ble_eq_true rfl, Nat.le_of_ble_eq_true rfl⟩ hP hD (p_all _) 0 rfl rfl hl rfl rfl (Nat.le_of_ble_eq_true rfl) dX6_oils_24 ⟨Nat.zero_le _, Nat.zero_le _⟩) hP hD hS hA (p_all _) (p_back _) (fun H locs hP hD hS => ?_)
    refine lv_aload_n hx hb dX6_oils_27 rfl (lv_at hl 0 rfl) ?_
    refine lv_iload_n hx hb dX6_oils_28 rfl (lv_at hl 1 rfl) ?_
    refine lv_iconst (v := 2) hx hb dX6_oils_29 (by decide) ?_
    refine lv_iconst (v := 0) hx hb dX6_oils_30 (by decide) ?_
    refine x_goV (wn := MW g o (mz r (upd (upd (mZ r) 18 (((mZ r) 18) - 1)) 17 0))) (x_rV (As := [.int 1, .int 2, .int 0]) X (c_X6_lays l g o (mz r (upd (mZ r) 18 (((mZ r) 18) - 1))) 1 2 (by decide) (by decide) 0  _) yf_X6_lays yi_X6_lays wM_X6_29 ⟨Nat.le_of_ble_eq_true rfl, Nat.le_of_ble_eq_true rfl⟩ hP hD (p_all _) 0 rfl rfl hl rfl rfl (Nat.le_of_ble_eq_true rfl) dX6_oils_31 ⟨Nat.zero_le _, Nat.zero_le _⟩) hP hD hS hA (p_all _) (p_back _) (fun H locs hP hD hS => ?_)
    refine lv_aload_n hx hb dX6_oils_34 rfl (lv_at hl 0 rfl) ?_
    refine lv_iload_n hx hb dX6_oils_35 rfl (lv_at hl 1 rfl) ?_
    refine lv_iconst (v := 3) hx hb dX6_oils_36 (by decide) ?_
    refine x_goI (wn := MW g o (mz r (upd (upd (mZ r) 18 (((mZ r) 18) - 1)) 17 0))) (x_rV (As := [.int 1, .int 3]) X (c_X6_of l g o (mz r (upd (upd (mZ r) 18 (((mZ r) 18) - 1)) 17 0)) 1 3 (by decide) (by decide)  _) yf_X6_of yi_X6_of wM_X6_56 ⟨Nat.le_of_ble_eq_true rfl, Nat.le_of_ble_eq_true rfl⟩ hP hD (p_all _) 0 rfl rfl hl rfl rfl (Nat.le_of_ble_eq_true rfl) dX6_oils_37 ⟨Nat.zero_le _, Nat.zero_le _⟩) hP hD hS hA (p_all _) (p_back _) (fun H locs hP hD hS => ?_)
    have E : (MW g o (mz r (upd (upd (mZ r) 18 (((mZ r) 18) - 1)) 17 0)) : va_W) = MW g o (mz r (oilM 15 (mZ r))) := by (simp only [oilM, oilMR, if_neg c_1]) <;> rfl
    exact x_iret X hr hlocks (pw E hP) (dw E hD) hS (by (simp only [oilM, oilMR, if_neg c_1]) <;> rfl) dX6_oils_40

set_option maxHeartbeats 4000000 in
set_option maxRecDepth 100000 in
theorem c_X6_hangs_1 (l : Launch) (g : wG) (o : Nat → Nat) (r : MS) : CtI l g 1 yX6_hangs cX6_hangs 2 (some .int) [.ref (o 0), .int 1] (MW g o r) (1 - mZ r 20) (MW g o (mz r (hanM 15 (mZ r)))) := by
  intro sz
  refine x_enter (Qc := fun A => QI g A (1 - mZ r 20) (MW g o (mz r (hanM 15 (mZ r))))) (by decide) (Nat.le_of_ble_eq_true rfl) ?_
  intro p e s m args below meth c X hr hlocks A hA hP hD hS ls hl
  obtain ⟨⟨hx, hb, hml, hown, hts⟩, hK, hN⟩ := id X
  have hl : lv_has ls 2 [(0, .ref (o 0)), (1, .int 1)] := hl
  refine lv_aload_n hx hb dX6_hangs_0 rfl (lv_at hl 0 rfl) ?_
  refine lv_iload_n hx hb dX6_hangs_1 rfl (lv_at hl 1 rfl) ?_
  refine lv_iconst (v := 5) hx hb dX6_hangs_2 (by decide) ?_
  refine lv_iconst (v := 1) hx hb dX6_hangs_3 (by decide) ?_
  refine lv_aload_n hx hb dX6_hangs_4 rfl (lv_at hl 0 rfl) ?_
  refine lv_iload_n hx hb dX6_hangs_5 rfl (lv_at hl 1 rfl) ?_
  refine lv_iconst (v := 5) hx hb dX6_hangs_6 (by decide) ?_
  refine x_goI (wn := MW g o r) (x_rV (As := [.int 1, .int 5]) X (c_X6_of l g o r 1 5 (by decide) (by decide)  _) yf_X6_of yi_X6_of wM_X6_56 ⟨Nat.le_of_ble_eq_true rfl, Nat.le_of_ble_eq_true rfl⟩ hP hD (p_all _) 0 rfl rfl hl rfl rfl (Nat.le_of_ble_eq_true rfl) dX6_hangs_7 ⟨Nat.zero_le _, Nat.zero_le _⟩) hP hD hS hA (p_all _) (p_back _) (fun H locs hP hD hS => ?_)
  refine lv_isub hx hb dX6_hangs_10 ?_
  refine x_goV (wn := MW g o (mz r (upd (mZ r) 20 (1 - ((mZ r) 20))))) (x_rV (As := [.int 1, .int 5, .int (1 - ((mZ r) 20))]) X (c_X6_lays l g o r 1 5 (by decide) (by decide) (1 - ((mZ r) 20))  _) yf_X6_lays yi_X6_lays wM_X6_29 ⟨Nat.le_of_ble_eq_true rfl, Nat.le_of_ble_eq_true rfl⟩ hP hD (p_all _) 0 rfl rfl hl rfl rfl (Nat.le_of_ble_eq_true rfl) dX6_hangs_11 ⟨Nat.zero_le _, Nat.zero_le _⟩) hP hD hS hA (p_all _) (p_back _) (fun H locs hP hD hS => ?_)
  refine lv_aload_n hx hb dX6_hangs_14 rfl (lv_at hl 0 rfl) ?_
  refine lv_iload_n hx hb dX6_hangs_15 rfl (lv_at hl 1 rfl) ?_
  refine lv_iconst (v := 5) hx hb dX6_hangs_16 (by decide) ?_
  refine x_goI (wn := MW g o (mz r (upd (mZ r) 20 (1 - ((mZ r) 20))))) (x_rV (As := [.int 1, .int 5]) X (c_X6_of l g o (mz r (upd (mZ r) 20 (1 - ((mZ r) 20)))) 1 5 (by decide) (by decide)  _) yf_X6_of yi_X6_of wM_X6_56 ⟨Nat.le_of_ble_eq_true rfl, Nat.le_of_ble_eq_true rfl⟩ hP hD (p_all _) 0 rfl rfl hl rfl rfl (Nat.le_of_ble_eq_true rfl) dX6_hangs_17 ⟨Nat.zero_le _, Nat.zero_le _⟩) hP hD hS hA (p_all _) (p_back _) (fun H locs hP hD hS => ?_)
  have E : (MW g o (mz r (upd (mZ r) 20 (1 - ((mZ r) 20)))) : va_W) = MW g o (mz r (hanM 15 (mZ r))) := by rfl
  exact x_iret X hr hlocks (pw E hP) (dw E hD) hS rfl dX6_hangs_20

set_option maxHeartbeats 4000000 in
set_option maxRecDepth 100000 in
theorem c_X6_dials_1 (l : Launch) (g : wG) (o : Nat → Nat) (r : MS) (x : Int32) : CtI l g 1 yX6_dials cX6_dials 4 (some .int) [.ref (o 0), .int 1, .int x] (MW g o r) (distM (mZ r 15) x) (MW g o (mz r (upd (mZ r) 15 x))) := by
  intro sz
  refine x_enter (Qc := fun A => QI g A (distM (mZ r 15) x) (MW g o (mz r (upd (mZ r) 15 x)))) (by decide) (Nat.le_of_ble_eq_true rfl) ?_
  intro p e s m args below meth c X hr hlocks A hA hP hD hS ls hl
  obtain ⟨⟨hx, hb, hml, hown, hts⟩, hK, hN⟩ := id X
  have hl : lv_has ls 4 [(0, .ref (o 0)), (1, .int 1), (2, .int x)] := hl
  refine lv_aload_n hx hb dX6_dials_0 rfl (lv_at hl 0 rfl) ?_
  refine lv_iload_n hx hb dX6_dials_1 rfl (lv_at hl 1 rfl) ?_
  refine lv_iconst (v := 0) hx hb dX6_dials_2 (by decide) ?_
  refine x_goI (wn := MW g o r) (x_rV (As := [.int 1, .int 0]) X (c_X6_of l g o r 1 0 (by decide) (by decide)  _) yf_X6_of yi_X6_of wM_X6_56 ⟨Nat.le_of_ble_eq_true rfl, Nat.le_of_ble_eq_true rfl⟩ hP hD (p_all _) 0 rfl rfl hl rfl rfl (Nat.le_of_ble_eq_true rfl) dX6_dials_3 ⟨Nat.zero_le _, Nat.zero_le _⟩) hP hD hS hA (p_all _) (p_back _) (fun H locs hP hD hS => ?_)
  refine lv_iload_n hx hb dX6_dials_6 rfl (lv_at hl 2 rfl) ?_
  refine x_goI (wn := MW g o r) (x_rS (As := [.int ((mZ r) 15), .int x]) X (c_X6_distance l g ((mZ r) 15) x _) yf_X6_distance ys_X6_distance wM_X6_64 ⟨Nat.le_of_ble_eq_true rfl, Nat.le_of_ble_eq_true rfl⟩ hP hD (p_none _) hl rfl rfl (Nat.le_of_ble_eq_true rfl) dX6_dials_7 ⟨Nat.zero_le _, Nat.zero_le _⟩) hP hD hS hA (p_none _) (p_noneB _) (fun H locs hP hD hS => ?_)
  refine lv_istore_n (lv' := [(3, .int (distM ((mZ r) 15) x)), (0, .ref (o 0)), (1, .int 1), (2, .int x)]) hx hb dX6_dials_10 rfl hl (by decide) rfl (fun ls hl => ?_)
  refine lv_aload_n hx hb dX6_dials_11 rfl (lv_at hl 1 rfl) ?_
  refine lv_iload_n hx hb dX6_dials_12 rfl (lv_at hl 2 rfl) ?_
  refine lv_iconst (v := 0) hx hb dX6_dials_13 (by decide) ?_
  refine lv_iload_n hx hb dX6_dials_14 rfl (lv_at hl 3 rfl) ?_
  refine x_goV (wn := MW g o (mz r (upd (mZ r) 15 x))) (x_rV (As := [.int 1, .int 0, .int x]) X (c_X6_lays l g o r 1 0 (by decide) (by decide) x  _) yf_X6_lays yi_X6_lays wM_X6_29 ⟨Nat.le_of_ble_eq_true rfl, Nat.le_of_ble_eq_true rfl⟩ hP hD (p_all _) 0 rfl rfl hl rfl rfl (Nat.le_of_ble_eq_true rfl) dX6_dials_15 ⟨Nat.zero_le _, Nat.zero_le _⟩) hP hD hS hA (p_all _) (p_back _) (fun H locs hP hD hS => ?_)
  refine lv_iload_n hx hb dX6_dials_18 rfl (lv_at hl 0 rfl) ?_
  exact x_iret X hr hlocks hP hD hS rfl dX6_dials_19

set_option maxHeartbeats 4000000 in
set_option maxRecDepth 100000 in
theorem c_X6_turns_1 (l : Launch) (g : wG) (o : Nat → Nat) (r : MS) : CtI l g 1 yX6_turns cX6_turns 5 (some .int) [.ref (o 0), .int 1] (MW g o r) ((turnM 15 (mZ r)).2) (MW g o (mz r ((turnM 15 (mZ r)).1))) := by
  intro sz
  refine x_enter (Qc := fun A => QI g A ((turnM 15 (mZ r)).2) (MW g o (mz r ((turnM 15 (mZ r)).1)))) (by decide) (Nat.le_of_ble_eq_true rfl) ?_
  intro p e s m args below meth c X hr hlocks A hA hP hD hS ls hl
  obtain ⟨⟨hx, hb, hml, hown, hts⟩, hK, hN⟩ := id X
  have hl : lv_has ls 5 [(0, .ref (o 0)), (1, .int 1)] := hl
  refine lv_aload_n hx hb dX6_turns_0 rfl (lv_at hl 0 rfl) ?_
  refine lv_iload_n hx hb dX6_turns_1 rfl (lv_at hl 1 rfl) ?_
  refine lv_iconst (v := 2) hx hb dX6_turns_2 (by decide) ?_
  refine x_goI (wn := MW g o r) (x_rV (As := [.int 1, .int 2]) X (c_X6_of l g o r 1 2 (by decide) (by decide)  _) yf_X6_of yi_X6_of wM_X6_56 ⟨Nat.le_of_ble_eq_true rfl, Nat.le_of_ble_eq_true rfl⟩ hP hD (p_all _) 0 rfl rfl hl rfl rfl (Nat.le_of_ble_eq_true rfl) dX6_turns_3 ⟨Nat.zero_le _, Nat.zero_le _⟩) hP hD hS hA (p_all _) (p_back _) (fun H locs hP hD hS => ?_)
  refine lv_aload_n hx hb dX6_turns_6 rfl (lv_at hl 0 rfl) ?_
  refine x_get (v := .ref (o 1)) X 0 0 in_X6 hP rfl rfl (by decide) wF_X6_7 rfl rfl dX6_turns_7 ?_
  refine lv_iconst (v := 1) hx hb dX6_turns_10 (by decide) ?_
  refine x_iald (v := ((mZ r) 1)) X 1 1 hP rfl rfl (by decide) (Nat.le_of_ble_eq_true rfl) rfl dX6_turns_11 ?_
  refine lv_iadd hx hb dX6_turns_12 ?_
  refine lv_aload_n hx hb dX6_turns_13 rfl (lv_at hl 0 rfl) ?_
  refine lv_iload_n hx hb dX6_turns_14 rfl (lv_at hl 1 rfl) ?_
  refine lv_iconst (v := 3) hx hb dX6_turns_15 (by decide) ?_
  refine x_goI (wn := MW g o r) (x_rV (As := [.int 1, .int 3]) X (c_X6_of l g o r 1 3 (by decide) (by decide)  _) yf_X6_of yi_X6_of wM_X6_56 ⟨Nat.le_of_ble_eq_true rfl, Nat.le_of_ble_eq_true rfl⟩ hP hD (p_all _) 0 rfl rfl hl rfl rfl (Nat.le_of_ble_eq_true rfl) dX6_turns_16 ⟨Nat.zero_le _, Nat.zero_le _⟩) hP hD hS hA (p_all _) (p_back _) (fun H locs hP hD hS => ?_)
  refine lv_iadd hx hb dX6_turns_19 ?_
  refine lv_istore_n (lv' := [(2, .int ((((mZ r) 17) + ((mZ r) 1)) + ((mZ r) 18))), (0, .ref (o 0)), (1, .int 1)]) hx hb dX6_turns_20 rfl hl (by decide) rfl (fun ls hl => ?_)
  refine lv_bipush (v := 10) hx hb dX6_turns_21 (by decide) ?_
  refine lv_aload_n hx hb dX6_turns_23 rfl (lv_at hl 1 rfl) ?_
  refine lv_iload_n hx hb dX6_turns_24 rfl (lv_at hl 2 rfl) ?_
  refine lv_iconst (v := 1) hx hb dX6_turns_25 (by decide) ?_
  refine x_goI (wn := MW g o r) (x_rV (As := [.int 1, .int 1]) X (c_X6_of l g o r 1 1 (by decide) (by decide)  _) yf_X6_of yi_X6_of wM_X6_56 ⟨Nat.le_of_ble_eq_true rfl, Nat.le_of_ble_eq_true rfl⟩ hP hD (p_all _) 0 rfl rfl hl rfl rfl (Nat.le_of_ble_eq_true rfl) dX6_turns_26 ⟨Nat.zero_le _, Nat.zero_le _⟩) hP hD hS hA (p_all _) (p_back _) (fun H locs hP hD hS => ?_)
  refine lv_imul hx hb dX6_turns_29 ?_
  refine lv_istore_n (lv' := [(3, .int (10 * ((mZ r) 16))), (2, .int ((((mZ r) 17) + ((mZ r) 1)) + ((mZ r) 18))), (0, .ref (o 0)), (1, .int 1)]) hx hb dX6_turns_30 rfl hl (by decide) rfl (fun ls hl => ?_)
  refine lv_iload_n hx hb dX6_turns_31 rfl (lv_at hl 1 rfl) ?_
  refine lv_iload_n hx hb dX6_turns_32 rfl (lv_at hl 0 rfl) ?_
  refine lv_icmp_lt (tgt := 97) hx hb dX6_turns_33 (by decide) (fun (c_1 : ((((mZ r) 17) + ((mZ r) 1)) + ((mZ r) 18)) < (10 * ((mZ r) 16))) => ?_) (fun (c_1 : ¬ ((((mZ r) 17) + ((mZ r) 1)) + ((mZ r) 18)) < (10 * ((mZ r) 16))) => ?_)
  · refine lv_aload_n hx hb dX6_turns_97 rfl (lv_at hl 2 rfl) ?_
    refine lv_iload_n hx hb dX6_turns_98 rfl (lv_at hl 3 rfl) ?_
    refine lv_iconst (v := 2) hx hb dX6_turns_99 (by decide) ?_
    refine lv_iload_n hx hb dX6_turns_100 rfl (lv_at hl 1 rfl) ?_
    refine x_goV (wn := MW g o (mz r (upd (mZ r) 17 ((((mZ r) 17) + ((mZ r) 1)) + ((mZ r) 18))))) (x_rV (As := [.int 1, .int 2, .int ((((mZ r) 17) + ((mZ r) 1)) + ((mZ r) 18))]) X (c_X6_lays l g o r 1 2 (by decide) (by decide) ((((mZ r) 17) + ((mZ r) 1)) + ((mZ r) 18))  _) yf_X6_lays yi_X6_lays wM_X6_29 ⟨Nat.le_of_ble_eq_true rfl, Nat.le_of_ble_eq_true rfl⟩ hP hD (p_all _) 0 rfl rfl hl rfl rfl (Nat.le_of_ble_eq_true rfl) dX6_turns_101 ⟨Nat.zero_le _, Nat.zero_le _⟩) hP hD hS hA (p_all _) (p_back _) (fun H locs hP hD hS => ?_)
    refine lv_aload_n hx hb dX6_turns_104 rfl (lv_at hl 2 rfl) ?_
    refine lv_iload_n hx hb dX6_turns_105 rfl (lv_at hl 3 rfl) ?_
    refine lv_iconst (v := 0) hx hb dX6_turns_106 (by decide) ?_
    refine lv_aload_n hx hb dX6_turns_107 rfl (lv_at hl 2 rfl) ?_
    refine lv_iload_n hx hb dX6_turns_108 rfl (lv_at hl 3 rfl) ?_
    refine lv_iconst (v := 0) hx hb dX6_turns_109 (by decide) ?_
    refine x_goI (wn := MW g o (mz r (upd (mZ r) 17 ((((mZ r) 17) + ((mZ r) 1)) + ((mZ r) 18))))) (x_rV (As := [.int 1, .int 0]) X (c_X6_of l g o (mz r (upd (mZ r) 17 ((((mZ r) 17) + ((mZ r) 1)) + ((mZ r) 18)))) 1 0 (by decide) (by decide)  _) yf_X6_of yi_X6_of wM_X6_56 ⟨Nat.le_of_ble_eq_true rfl, Nat.le_of_ble_eq_true rfl⟩ hP hD (p_all _) 0 rfl rfl hl rfl rfl (Nat.le_of_ble_eq_true rfl) dX6_turns_110 ⟨Nat.zero_le _, Nat.zero_le _⟩) hP hD hS hA (p_all _) (p_back _) (fun H locs hP hD hS => ?_)
    refine lv_iconst (v := 1) hx hb dX6_turns_113 (by decide) ?_
    refine lv_iadd hx hb dX6_turns_114 ?_
    refine lv_sipush (v := 720) hx hb dX6_turns_115 (by decide) ?_
    refine lv_irem hx hb dX6_turns_118 (by decide) ?_
    refine x_goV (wn := MW g o (mz r (upd (upd (mZ r) 17 ((((mZ r) 17) + ((mZ r) 1)) + ((mZ r) 18))) 15 (jrem (((mZ r) 15) + 1) 720)))) (x_rV (As := [.int 1, .int 0, .int (jrem (((mZ r) 15) + 1) 720)]) X (c_X6_lays l g o (mz r (upd (mZ r) 17 ((((mZ r) 17) + ((mZ r) 1)) + ((mZ r) 18)))) 1 0 (by decide) (by decide) (jrem (((mZ r) 15) + 1) 720)  _) yf_X6_lays yi_X6_lays wM_X6_29 ⟨Nat.le_of_ble_eq_true rfl, Nat.le_of_ble_eq_true rfl⟩ hP hD (p_all _) 0 rfl rfl hl rfl rfl (Nat.le_of_ble_eq_true rfl) dX6_turns_119 ⟨Nat.zero_le _, Nat.zero_le _⟩) hP hD hS hA (p_all _) (p_back _) (fun H locs hP hD hS => ?_)
    refine lv_aload_n hx hb dX6_turns_122 rfl (lv_at hl 2 rfl) ?_
    refine lv_iload_n hx hb dX6_turns_123 rfl (lv_at hl 3 rfl) ?_
    refine lv_iconst (v := 5) hx hb dX6_turns_124 (by decide) ?_
    refine x_goI (wn := MW g o (mz r (upd (upd (mZ r) 17 ((((mZ r) 17) + ((mZ r) 1)) + ((mZ r) 18))) 15 (jrem (((mZ r) 15) + 1) 720)))) (x_rV (As := [.int 1, .int 5]) X (c_X6_of l g o (mz r (upd (upd (mZ r) 17 ((((mZ r) 17) + ((mZ r) 1)) + ((mZ r) 18))) 15 (jrem (((mZ r) 15) + 1) 720))) 1 5 (by decide) (by decide)  _) yf_X6_of yi_X6_of wM_X6_56 ⟨Nat.le_of_ble_eq_true rfl, Nat.le_of_ble_eq_true rfl⟩ hP hD (p_all _) 0 rfl rfl hl rfl rfl (Nat.le_of_ble_eq_true rfl) dX6_turns_125 ⟨Nat.zero_le _, Nat.zero_le _⟩) hP hD hS hA (p_all _) (p_back _) (fun H locs hP hD hS => ?_)
    refine lv_iconst (v := 1) hx hb dX6_turns_128 (by decide) ?_
    refine lv_icmp_ne (tgt := 144) hx hb dX6_turns_129 (by decide) (fun (c_2 : ¬ ((mZ r) 20) = 1) => ?_) (fun (c_2 : ((mZ r) 20) = 1) => ?_)
    · refine lv_iconst (v := 0) hx hb dX6_turns_144 (by decide) ?_
      refine lv_istore (lv' := [(4, .int 0), (3, .int (10 * ((mZ r) 16))), (2, .int ((((mZ r) 17) + ((mZ r) 1)) + ((mZ r) 18))), (0, .ref (o 0)), (1, .int 1)]) hx hb dX6_turns_145 hl (by decide) rfl (fun ls hl => ?_)
      refine lv_aload_n hx hb dX6_turns_147 rfl (lv_at hl 3 rfl) ?_
      refine lv_iload_n hx hb dX6_turns_148 rfl (lv_at hl 4 rfl) ?_
      refine lv_bipush (v := 6) hx hb dX6_turns_149 (by decide) ?_
      refine lv_aload_n hx hb dX6_turns_151 rfl (lv_at hl 3 rfl) ?_
      refine lv_iload_n hx hb dX6_turns_152 rfl (lv_at hl 4 rfl) ?_
      refine lv_bipush (v := 6) hx hb dX6_turns_153 (by decide) ?_
      refine x_goI (wn := MW g o (mz r (upd (upd (mZ r) 17 ((((mZ r) 17) + ((mZ r) 1)) + ((mZ r) 18))) 15 (jrem (((mZ r) 15) + 1) 720)))) (x_rV (As := [.int 1, .int 6]) X (c_X6_of l g o (mz r (upd (upd (mZ r) 17 ((((mZ r) 17) + ((mZ r) 1)) + ((mZ r) 18))) 15 (jrem (((mZ r) 15) + 1) 720))) 1 6 (by decide) (by decide)  _) yf_X6_of yi_X6_of wM_X6_56 ⟨Nat.le_of_ble_eq_true rfl, Nat.le_of_ble_eq_true rfl⟩ hP hD (p_all _) 0 rfl rfl hl rfl rfl (Nat.le_of_ble_eq_true rfl) dX6_turns_155 ⟨Nat.zero_le _, Nat.zero_le _⟩) hP hD hS hA (p_all _) (p_back _) (fun H locs hP hD hS => ?_)
      refine lv_iload hx hb dX6_turns_158 (lv_at hl 0 rfl) ?_
      refine lv_iadd hx hb dX6_turns_160 ?_
      refine x_goV (wn := MW g o (mz r (upd (upd (upd (mZ r) 17 ((((mZ r) 17) + ((mZ r) 1)) + ((mZ r) 18))) 15 (jrem (((mZ r) 15) + 1) 720)) 21 (((mZ r) 21) + 0)))) (x_rV (As := [.int 1, .int 6, .int (((mZ r) 21) + 0)]) X (c_X6_lays l g o (mz r (upd (upd (mZ r) 17 ((((mZ r) 17) + ((mZ r) 1)) + ((mZ r) 18))) 15 (jrem (((mZ r) 15) + 1) 720))) 1 6 (by decide) (by decide) (((mZ r) 21) + 0)  _) yf_X6_lays yi_X6_lays wM_X6_29 ⟨Nat.le_of_ble_eq_true rfl, Nat.le_of_ble_eq_true rfl⟩ hP hD (p_all _) 0 rfl rfl hl rfl rfl (Nat.le_of_ble_eq_true rfl) dX6_turns_161 ⟨Nat.zero_le _, Nat.zero_le _⟩) hP hD hS hA (p_all _) (p_back _) (fun H locs hP hD hS => ?_)
      refine lv_iload hx hb dX6_turns_164 (lv_at hl 0 rfl) ?_
      have E : (MW g o (mz r (upd (upd (upd (mZ r) 17 ((((mZ r) 17) + ((mZ r) 1)) + ((mZ r) 18))) 15 (jrem (((mZ r) 15) + 1) 720)) 21 (((mZ r) 21) + 0))) : va_W) = MW g o (mz r ((turnM 15 (mZ r)).1)) := by (simp only [turnM, ssM, stM, if_pos c_1, if_neg c_2]) <;> rfl
      exact x_iret X hr hlocks (pw E hP) (dw E hD) hS (by (simp only [turnM, ssM, stM, if_pos c_1, if_neg c_2]) <;> rfl) dX6_turns_166
    · refine lv_aload_n hx hb dX6_turns_132 rfl (lv_at hl 2 rfl) ?_
      refine lv_iload_n hx hb dX6_turns_133 rfl (lv_at hl 3 rfl) ?_
      refine lv_iconst (v := 0) hx hb dX6_turns_134 (by decide) ?_
      refine x_goI (wn := MW g o (mz r (upd (upd (mZ r) 17 ((((mZ r) 17) + ((mZ r) 1)) + ((mZ r) 18))) 15 (jrem (((mZ r) 15) + 1) 720)))) (x_rV (As := [.int 1, .int 0]) X (c_X6_of l g o (mz r (upd (upd (mZ r) 17 ((((mZ r) 17) + ((mZ r) 1)) + ((mZ r) 18))) 15 (jrem (((mZ r) 15) + 1) 720))) 1 0 (by decide) (by decide)  _) yf_X6_of yi_X6_of wM_X6_56 ⟨Nat.le_of_ble_eq_true rfl, Nat.le_of_ble_eq_true rfl⟩ hP hD (p_all _) 0 rfl rfl hl rfl rfl (Nat.le_of_ble_eq_true rfl) dX6_turns_135 ⟨Nat.zero_le _, Nat.zero_le _⟩) hP hD hS hA (p_all _) (p_back _) (fun H locs hP hD hS => ?_)
      refine x_goI (wn := MW g o (mz r (upd (upd (mZ r) 17 ((((mZ r) 17) + ((mZ r) 1)) + ((mZ r) 18))) 15 (jrem (((mZ r) 15) + 1) 720)))) (x_rS (As := [.int (jrem (((mZ r) 15) + 1) 720)]) X (c_X6_strikesAt l g (jrem (((mZ r) 15) + 1) 720) _) yf_X6_strikesAt ys_X6_strikesAt wM_X6_73 ⟨Nat.le_of_ble_eq_true rfl, Nat.le_of_ble_eq_true rfl⟩ hP hD (p_none _) hl rfl rfl (Nat.le_of_ble_eq_true rfl) dX6_turns_138 ⟨Nat.zero_le _, Nat.zero_le _⟩) hP hD hS hA (p_none _) (p_noneB _) (fun H locs hP hD hS => ?_)
      refine lv_goto (tgt := 145) hx hb dX6_turns_141 (by decide) ?_
      refine lv_istore (lv' := [(4, .int (strM (jrem (((mZ r) 15) + 1) 720))), (3, .int (10 * ((mZ r) 16))), (2, .int ((((mZ r) 17) + ((mZ r) 1)) + ((mZ r) 18))), (0, .ref (o 0)), (1, .int 1)]) hx hb dX6_turns_145 hl (by decide) rfl (fun ls hl => ?_)
      refine lv_aload_n hx hb dX6_turns_147 rfl (lv_at hl 3 rfl) ?_
      refine lv_iload_n hx hb dX6_turns_148 rfl (lv_at hl 4 rfl) ?_
      refine lv_bipush (v := 6) hx hb dX6_turns_149 (by decide) ?_
      refine lv_aload_n hx hb dX6_turns_151 rfl (lv_at hl 3 rfl) ?_
      refine lv_iload_n hx hb dX6_turns_152 rfl (lv_at hl 4 rfl) ?_
      refine lv_bipush (v := 6) hx hb dX6_turns_153 (by decide) ?_
      refine x_goI (wn := MW g o (mz r (upd (upd (mZ r) 17 ((((mZ r) 17) + ((mZ r) 1)) + ((mZ r) 18))) 15 (jrem (((mZ r) 15) + 1) 720)))) (x_rV (As := [.int 1, .int 6]) X (c_X6_of l g o (mz r (upd (upd (mZ r) 17 ((((mZ r) 17) + ((mZ r) 1)) + ((mZ r) 18))) 15 (jrem (((mZ r) 15) + 1) 720))) 1 6 (by decide) (by decide)  _) yf_X6_of yi_X6_of wM_X6_56 ⟨Nat.le_of_ble_eq_true rfl, Nat.le_of_ble_eq_true rfl⟩ hP hD (p_all _) 0 rfl rfl hl rfl rfl (Nat.le_of_ble_eq_true rfl) dX6_turns_155 ⟨Nat.zero_le _, Nat.zero_le _⟩) hP hD hS hA (p_all _) (p_back _) (fun H locs hP hD hS => ?_)
      refine lv_iload hx hb dX6_turns_158 (lv_at hl 0 rfl) ?_
      refine lv_iadd hx hb dX6_turns_160 ?_
      refine x_goV (wn := MW g o (mz r (upd (upd (upd (mZ r) 17 ((((mZ r) 17) + ((mZ r) 1)) + ((mZ r) 18))) 15 (jrem (((mZ r) 15) + 1) 720)) 21 (((mZ r) 21) + (strM (jrem (((mZ r) 15) + 1) 720)))))) (x_rV (As := [.int 1, .int 6, .int (((mZ r) 21) + (strM (jrem (((mZ r) 15) + 1) 720)))]) X (c_X6_lays l g o (mz r (upd (upd (mZ r) 17 ((((mZ r) 17) + ((mZ r) 1)) + ((mZ r) 18))) 15 (jrem (((mZ r) 15) + 1) 720))) 1 6 (by decide) (by decide) (((mZ r) 21) + (strM (jrem (((mZ r) 15) + 1) 720)))  _) yf_X6_lays yi_X6_lays wM_X6_29 ⟨Nat.le_of_ble_eq_true rfl, Nat.le_of_ble_eq_true rfl⟩ hP hD (p_all _) 0 rfl rfl hl rfl rfl (Nat.le_of_ble_eq_true rfl) dX6_turns_161 ⟨Nat.zero_le _, Nat.zero_le _⟩) hP hD hS hA (p_all _) (p_back _) (fun H locs hP hD hS => ?_)
      refine lv_iload hx hb dX6_turns_164 (lv_at hl 0 rfl) ?_
      have E : (MW g o (mz r (upd (upd (upd (mZ r) 17 ((((mZ r) 17) + ((mZ r) 1)) + ((mZ r) 18))) 15 (jrem (((mZ r) 15) + 1) 720)) 21 (((mZ r) 21) + (strM (jrem (((mZ r) 15) + 1) 720))))) : va_W) = MW g o (mz r ((turnM 15 (mZ r)).1)) := by (simp only [turnM, ssM, stM, if_pos c_1, if_pos c_2]) <;> rfl
      exact x_iret X hr hlocks (pw E hP) (dw E hD) hS (by (simp only [turnM, ssM, stM, if_pos c_1, if_pos c_2]) <;> rfl) dX6_turns_166
  · refine lv_aload_n hx hb dX6_turns_36 rfl (lv_at hl 2 rfl) ?_
    refine lv_iload_n hx hb dX6_turns_37 rfl (lv_at hl 3 rfl) ?_
    refine lv_iconst (v := 2) hx hb dX6_turns_38 (by decide) ?_
    refine lv_iload_n hx hb dX6_turns_39 rfl (lv_at hl 1 rfl) ?_
    refine lv_iload_n hx hb dX6_turns_40 rfl (lv_at hl 0 rfl) ?_
    refine lv_isub hx hb dX6_turns_41 ?_
    refine x_goV (wn := MW g o (mz r (upd (mZ r) 17 (((((mZ r) 17) + ((mZ r) 1)) + ((mZ r) 18)) - (10 * ((mZ r) 16)))))) (x_rV (As := [.int 1, .int 2, .int (((((mZ r) 17) + ((mZ r) 1)) + ((mZ r) 18)) - (10 * ((mZ r) 16)))]) X (c_X6_lays l g o r 1 2 (by decide) (by decide) (((((mZ r) 17) + ((mZ r) 1)) + ((mZ r) 18)) - (10 * ((mZ r) 16)))  _) yf_X6_lays yi_X6_lays wM_X6_29 ⟨Nat.le_of_ble_eq_true rfl, Nat.le_of_ble_eq_true rfl⟩ hP hD (p_all _) 0 rfl rfl hl rfl rfl (Nat.le_of_ble_eq_true rfl) dX6_turns_42 ⟨Nat.zero_le _, Nat.zero_le _⟩) hP hD hS hA (p_all _) (p_back _) (fun H locs hP hD hS => ?_)
    refine lv_aload_n hx hb dX6_turns_45 rfl (lv_at hl 2 rfl) ?_
    refine lv_iload_n hx hb dX6_turns_46 rfl (lv_at hl 3 rfl) ?_
    refine lv_iconst (v := 4) hx hb dX6_turns_47 (by decide) ?_
    refine lv_aload_n hx hb dX6_turns_48 rfl (lv_at hl 2 rfl) ?_
    refine lv_iload_n hx hb dX6_turns_49 rfl (lv_at hl 3 rfl) ?_
    refine lv_iconst (v := 4) hx hb dX6_turns_50 (by decide) ?_
    refine x_goI (wn := MW g o (mz r (upd (mZ r) 17 (((((mZ r) 17) + ((mZ r) 1)) + ((mZ r) 18)) - (10 * ((mZ r) 16)))))) (x_rV (As := [.int 1, .int 4]) X (c_X6_of l g o (mz r (upd (mZ r) 17 (((((mZ r) 17) + ((mZ r) 1)) + ((mZ r) 18)) - (10 * ((mZ r) 16))))) 1 4 (by decide) (by decide)  _) yf_X6_of yi_X6_of wM_X6_56 ⟨Nat.le_of_ble_eq_true rfl, Nat.le_of_ble_eq_true rfl⟩ hP hD (p_all _) 0 rfl rfl hl rfl rfl (Nat.le_of_ble_eq_true rfl) dX6_turns_51 ⟨Nat.zero_le _, Nat.zero_le _⟩) hP hD hS hA (p_all _) (p_back _) (fun H locs hP hD hS => ?_)
    refine lv_iconst (v := 1) hx hb dX6_turns_54 (by decide) ?_
    refine lv_iadd hx hb dX6_turns_55 ?_
    refine x_goV (wn := MW g o (mz r (upd (upd (mZ r) 17 (((((mZ r) 17) + ((mZ r) 1)) + ((mZ r) 18)) - (10 * ((mZ r) 16)))) 19 (((mZ r) 19) + 1)))) (x_rV (As := [.int 1, .int 4, .int (((mZ r) 19) + 1)]) X (c_X6_lays l g o (mz r (upd (mZ r) 17 (((((mZ r) 17) + ((mZ r) 1)) + ((mZ r) 18)) - (10 * ((mZ r) 16))))) 1 4 (by decide) (by decide) (((mZ r) 19) + 1)  _) yf_X6_lays yi_X6_lays wM_X6_29 ⟨Nat.le_of_ble_eq_true rfl, Nat.le_of_ble_eq_true rfl⟩ hP hD (p_all _) 0 rfl rfl hl rfl rfl (Nat.le_of_ble_eq_true rfl) dX6_turns_56 ⟨Nat.zero_le _, Nat.zero_le _⟩) hP hD hS hA (p_all _) (p_back _) (fun H locs hP hD hS => ?_)
    refine lv_aload_n hx hb dX6_turns_59 rfl (lv_at hl 2 rfl) ?_
    refine lv_iload_n hx hb dX6_turns_60 rfl (lv_at hl 3 rfl) ?_
    refine lv_iconst (v := 4) hx hb dX6_turns_61 (by decide) ?_
    refine x_goI (wn := MW g o (mz r (upd (upd (mZ r) 17 (((((mZ r) 17) + ((mZ r) 1)) + ((mZ r) 18)) - (10 * ((mZ r) 16)))) 19 (((mZ r) 19) + 1)))) (x_rV (As := [.int 1, .int 4]) X (c_X6_of l g o (mz r (upd (upd (mZ r) 17 (((((mZ r) 17) + ((mZ r) 1)) + ((mZ r) 18)) - (10 * ((mZ r) 16)))) 19 (((mZ r) 19) + 1))) 1 4 (by decide) (by decide)  _) yf_X6_of yi_X6_of wM_X6_56 ⟨Nat.le_of_ble_eq_true rfl, Nat.le_of_ble_eq_true rfl⟩ hP hD (p_all _) 0 rfl rfl hl rfl rfl (Nat.le_of_ble_eq_true rfl) dX6_turns_62 ⟨Nat.zero_le _, Nat.zero_le _⟩) hP hD hS hA (p_all _) (p_back _) (fun H locs hP hD hS => ?_)
    refine lv_iconst (v := 3) hx hb dX6_turns_65 (by decide) ?_
    refine lv_irem hx hb dX6_turns_66 (by decide) ?_
    refine lv_if_ne (tgt := 95) hx hb dX6_turns_67 (by decide) (fun (c_3 : ¬ (jrem (((mZ r) 19) + 1) 3) = 0) => ?_) (fun (c_3 : (jrem (((mZ r) 19) + 1) 3) = 0) => ?_)
    · refine lv_iconst (v := 0) hx hb dX6_turns_95 (by decide) ?_
      have E : (MW g o (mz r (upd (upd (mZ r) 17 (((((mZ r) 17) + ((mZ r) 1)) + ((mZ r) 18)) - (10 * ((mZ r) 16)))) 19 (((mZ r) 19) + 1))) : va_W) = MW g o (mz r ((turnM 15 (mZ r)).1)) := by (simp only [turnM, ssM, stM, if_neg c_1, if_neg c_3]) <;> rfl
      exact x_iret X hr hlocks (pw E hP) (dw E hD) hS (by (simp only [turnM, ssM, stM, if_neg c_1, if_neg c_3]) <;> rfl) dX6_turns_96
    · refine lv_aload_n hx hb dX6_turns_70 rfl (lv_at hl 2 rfl) ?_
      refine lv_iload_n hx hb dX6_turns_71 rfl (lv_at hl 3 rfl) ?_
      refine lv_iconst (v := 3) hx hb dX6_turns_72 (by decide) ?_
      refine x_goI (wn := MW g o (mz r (upd (upd (mZ r) 17 (((((mZ r) 17) + ((mZ r) 1)) + ((mZ r) 18)) - (10 * ((mZ r) 16)))) 19 (((mZ r) 19) + 1)))) (x_rV (As := [.int 1, .int 3]) X (c_X6_of l g o (mz r (upd (upd (mZ r) 17 (((((mZ r) 17) + ((mZ r) 1)) + ((mZ r) 18)) - (10 * ((mZ r) 16)))) 19 (((mZ r) 19) + 1))) 1 3 (by decide) (by decide)  _) yf_X6_of yi_X6_of wM_X6_56 ⟨Nat.le_of_ble_eq_true rfl, Nat.le_of_ble_eq_true rfl⟩ hP hD (p_all _) 0 rfl rfl hl rfl rfl (Nat.le_of_ble_eq_true rfl) dX6_turns_73 ⟨Nat.zero_le _, Nat.zero_le _⟩) hP hD hS hA (p_all _) (p_back _) (fun H locs hP hD hS => ?_)
      refine lv_bipush (v := 9) hx hb dX6_turns_76 (by decide) ?_
      refine lv_icmp_ge (tgt := 95) hx hb dX6_turns_78 (by decide) (fun (c_4 : 9 ≤ ((mZ r) 18)) => ?_) (fun (c_4 : ¬ 9 ≤ ((mZ r) 18)) => ?_)
      · refine lv_iconst (v := 0) hx hb dX6_turns_95 (by decide) ?_
        have E : (MW g o (mz r (upd (upd (mZ r) 17 (((((mZ r) 17) + ((mZ r) 1)) + ((mZ r) 18)) - (10 * ((mZ r) 16)))) 19 (((mZ r) 19) + 1))) : va_W) = MW g o (mz r ((turnM 15 (mZ r)).1)) := by (simp only [turnM, ssM, stM, if_neg c_1, if_pos c_3, if_pos c_4]) <;> rfl
        exact x_iret X hr hlocks (pw E hP) (dw E hD) hS (by (simp only [turnM, ssM, stM, if_neg c_1, if_pos c_3, if_pos c_4]) <;> rfl) dX6_turns_96
      · refine lv_aload_n hx hb dX6_turns_81 rfl (lv_at hl 2 rfl) ?_
        refine lv_iload_n hx hb dX6_turns_82 rfl (lv_at hl 3 rfl) ?_
        refine lv_iconst (v := 3) hx hb dX6_turns_83 (by decide) ?_
        refine lv_aload_n hx hb dX6_turns_84 rfl (lv_at hl 2 rfl) ?_
        refine lv_iload_n hx hb dX6_turns_85 rfl (lv_at hl 3 rfl) ?_
        refine lv_iconst (v := 3) hx hb dX6_turns_86 (by decide) ?_
        refine x_goI (wn := MW g o (mz r (upd (upd (mZ r) 17 (((((mZ r) 17) + ((mZ r) 1)) + ((mZ r) 18)) - (10 * ((mZ r) 16)))) 19 (((mZ r) 19) + 1)))) (x_rV (As := [.int 1, .int 3]) X (c_X6_of l g o (mz r (upd (upd (mZ r) 17 (((((mZ r) 17) + ((mZ r) 1)) + ((mZ r) 18)) - (10 * ((mZ r) 16)))) 19 (((mZ r) 19) + 1))) 1 3 (by decide) (by decide)  _) yf_X6_of yi_X6_of wM_X6_56 ⟨Nat.le_of_ble_eq_true rfl, Nat.le_of_ble_eq_true rfl⟩ hP hD (p_all _) 0 rfl rfl hl rfl rfl (Nat.le_of_ble_eq_true rfl) dX6_turns_87 ⟨Nat.zero_le _, Nat.zero_le _⟩) hP hD hS hA (p_all _) (p_back _) (fun H locs hP hD hS => ?_)
        refine lv_iconst (v := 1) hx hb dX6_turns_90 (by decide) ?_
        refine lv_iadd hx hb dX6_turns_91 ?_
        refine x_goV (wn := MW g o (mz r (upd (upd (upd (mZ r) 17 (((((mZ r) 17) + ((mZ r) 1)) + ((mZ r) 18)) - (10 * ((mZ r) 16)))) 19 (((mZ r) 19) + 1)) 18 (((mZ r) 18) + 1)))) (x_rV (As := [.int 1, .int 3, .int (((mZ r) 18) + 1)]) X (c_X6_lays l g o (mz r (upd (upd (mZ r) 17 (((((mZ r) 17) + ((mZ r) 1)) + ((mZ r) 18)) - (10 * ((mZ r) 16)))) 19 (((mZ r) 19) + 1))) 1 3 (by decide) (by decide) (((mZ r) 18) + 1)  _) yf_X6_lays yi_X6_lays wM_X6_29 ⟨Nat.le_of_ble_eq_true rfl, Nat.le_of_ble_eq_true rfl⟩ hP hD (p_all _) 0 rfl rfl hl rfl rfl (Nat.le_of_ble_eq_true rfl) dX6_turns_92 ⟨Nat.zero_le _, Nat.zero_le _⟩) hP hD hS hA (p_all _) (p_back _) (fun H locs hP hD hS => ?_)
        refine lv_iconst (v := 0) hx hb dX6_turns_95 (by decide) ?_
        have E : (MW g o (mz r (upd (upd (upd (mZ r) 17 (((((mZ r) 17) + ((mZ r) 1)) + ((mZ r) 18)) - (10 * ((mZ r) 16)))) 19 (((mZ r) 19) + 1)) 18 (((mZ r) 18) + 1))) : va_W) = MW g o (mz r ((turnM 15 (mZ r)).1)) := by (simp only [turnM, ssM, stM, if_neg c_1, if_pos c_3, if_neg c_4]) <;> rfl
        exact x_iret X hr hlocks (pw E hP) (dw E hD) hS (by (simp only [turnM, ssM, stM, if_neg c_1, if_pos c_3, if_neg c_4]) <;> rfl) dX6_turns_96

set_option maxHeartbeats 4000000 in
set_option maxRecDepth 100000 in
theorem c_X6_oils_2 (l : Launch) (g : wG) (o : Nat → Nat) (r : MS) : CtI l g 1 yX6_oils cX6_oils 2 (some .int) [.ref (o 0), .int 2] (MW g o r) (oilMR 22 (mZ r)) (MW g o (mz r (oilM 22 (mZ r)))) := by
  intro sz
  refine x_enter (Qc := fun A => QI g A (oilMR 22 (mZ r)) (MW g o (mz r (oilM 22 (mZ r))))) (by decide) (Nat.le_of_ble_eq_true rfl) ?_
  intro p e s m args below meth c X hr hlocks A hA hP hD hS ls hl
  obtain ⟨⟨hx, hb, hml, hown, hts⟩, hK, hN⟩ := id X
  have hl : lv_has ls 2 [(0, .ref (o 0)), (1, .int 2)] := hl
  refine lv_aload_n hx hb dX6_oils_0 rfl (lv_at hl 0 rfl) ?_
  refine lv_iload_n hx hb dX6_oils_1 rfl (lv_at hl 1 rfl) ?_
  refine lv_iconst (v := 3) hx hb dX6_oils_2 (by decide) ?_
  refine lv_aload_n hx hb dX6_oils_3 rfl (lv_at hl 0 rfl) ?_
  refine lv_iload_n hx hb dX6_oils_4 rfl (lv_at hl 1 rfl) ?_
  refine lv_iconst (v := 3) hx hb dX6_oils_5 (by decide) ?_
  refine x_goI (wn := MW g o r) (x_rV (As := [.int 2, .int 3]) X (c_X6_of l g o r 2 3 (by decide) (by decide)  _) yf_X6_of yi_X6_of wM_X6_56 ⟨Nat.le_of_ble_eq_true rfl, Nat.le_of_ble_eq_true rfl⟩ hP hD (p_all _) 0 rfl rfl hl rfl rfl (Nat.le_of_ble_eq_true rfl) dX6_oils_6 ⟨Nat.zero_le _, Nat.zero_le _⟩) hP hD hS hA (p_all _) (p_back _) (fun H locs hP hD hS => ?_)
  refine lv_if_le (tgt := 23) hx hb dX6_oils_9 (by decide) (fun (c_1 : ((mZ r) 25) ≤ 0) => ?_) (fun (c_1 : ¬ ((mZ r) 25) ≤ 0) => ?_)
  · refine lv_iconst (v := 0) hx hb dX6_oils_23 (by decide) ?_
    refine x_goV (wn := MW g o (mz r (upd (mZ r) 25 0))) (x_rV (As := [.int 2, .int 3, .int 0]) X (c_X6_lays l g o r 2 3 (by decide) (by decide) 0  _) yf_X6_lays yi_X6_lays wM_X6_29 ⟨Nat.le_of_ble_eq_true rfl, Nat.le_of_ble_eq_true rfl⟩ hP hD (p_all _) 0 rfl rfl hl rfl rfl (Nat.le_of_ble_eq_true rfl) dX6_oils_24 ⟨Nat.zero_le _, Nat.zero_le _⟩) hP hD hS hA (p_all _) (p_back _) (fun H locs hP hD hS => ?_)
    refine lv_aload_n hx hb dX6_oils_27 rfl (lv_at hl 0 rfl) ?_
    refine lv_iload_n hx hb dX6_oils_28 rfl (lv_at hl 1 rfl) ?_
    refine lv_iconst (v := 2) hx hb dX6_oils_29 (by decide) ?_
    refine lv_iconst (v := 0) hx hb dX6_oils_30 (by decide) ?_
    refine x_goV (wn := MW g o (mz r (upd (upd (mZ r) 25 0) 24 0))) (x_rV (As := [.int 2, .int 2, .int 0]) X (c_X6_lays l g o (mz r (upd (mZ r) 25 0)) 2 2 (by decide) (by decide) 0  _) yf_X6_lays yi_X6_lays wM_X6_29 ⟨Nat.le_of_ble_eq_true rfl, Nat.le_of_ble_eq_true rfl⟩ hP hD (p_all _) 0 rfl rfl hl rfl rfl (Nat.le_of_ble_eq_true rfl) dX6_oils_31 ⟨Nat.zero_le _, Nat.zero_le _⟩) hP hD hS hA (p_all _) (p_back _) (fun H locs hP hD hS => ?_)
    refine lv_aload_n hx hb dX6_oils_34 rfl (lv_at hl 0 rfl) ?_
    refine lv_iload_n hx hb dX6_oils_35 rfl (lv_at hl 1 rfl) ?_
    refine lv_iconst (v := 3) hx hb dX6_oils_36 (by decide) ?_
    refine x_goI (wn := MW g o (mz r (upd (upd (mZ r) 25 0) 24 0))) (x_rV (As := [.int 2, .int 3]) X (c_X6_of l g o (mz r (upd (upd (mZ r) 25 0) 24 0)) 2 3 (by decide) (by decide)  _) yf_X6_of yi_X6_of wM_X6_56 ⟨Nat.le_of_ble_eq_true rfl, Nat.le_of_ble_eq_true rfl⟩ hP hD (p_all _) 0 rfl rfl hl rfl rfl (Nat.le_of_ble_eq_true rfl) dX6_oils_37 ⟨Nat.zero_le _, Nat.zero_le _⟩) hP hD hS hA (p_all _) (p_back _) (fun H locs hP hD hS => ?_)
    have E : (MW g o (mz r (upd (upd (mZ r) 25 0) 24 0)) : va_W) = MW g o (mz r (oilM 22 (mZ r))) := by (simp only [oilM, oilMR, if_pos c_1]) <;> rfl
    exact x_iret X hr hlocks (pw E hP) (dw E hD) hS (by (simp only [oilM, oilMR, if_pos c_1]) <;> rfl) dX6_oils_40
  · refine lv_aload_n hx hb dX6_oils_12 rfl (lv_at hl 0 rfl) ?_
    refine lv_iload_n hx hb dX6_oils_13 rfl (lv_at hl 1 rfl) ?_
    refine lv_iconst (v := 3) hx hb dX6_oils_14 (by decide) ?_
    refine x_goI (wn := MW g o r) (x_rV (As := [.int 2, .int 3]) X (c_X6_of l g o r 2 3 (by decide) (by decide)  _) yf_X6_of yi_X6_of wM_X6_56 ⟨Nat.le_of_ble_eq_true rfl, Nat.le_of_ble_eq_true rfl⟩ hP hD (p_all _) 0 rfl rfl hl rfl rfl (Nat.le_of_ble_eq_true rfl) dX6_oils_15 ⟨Nat.zero_le _, Nat.zero_le _⟩) hP hD hS hA (p_all _) (p_back _) (fun H locs hP hD hS => ?_)
    refine lv_iconst (v := 1) hx hb dX6_oils_18 (by decide) ?_
    refine lv_isub hx hb dX6_oils_19 ?_
    refine lv_goto (tgt := 24) hx hb dX6_oils_20 (by decide) ?_
    refine x_goV (wn := MW g o (mz r (upd (mZ r) 25 (((mZ r) 25) - 1)))) (x_rV (As := [.int 2, .int 3, .int (((mZ r) 25) - 1)]) X (c_X6_lays l g o r 2 3 (by decide) (by decide) (((mZ r) 25) - 1)  _) yf_X6_lays yi_X6_lays wM_X6_29 ⟨Nat.le_of_ble_eq_true rfl, Nat.le_of_ble_eq_true rfl⟩ hP hD (p_all _) 0 rfl rfl hl rfl rfl (Nat.le_of_ble_eq_true rfl) dX6_oils_24 ⟨Nat.zero_le _, Nat.zero_le _⟩) hP hD hS hA (p_all _) (p_back _) (fun H locs hP hD hS => ?_)
    refine lv_aload_n hx hb dX6_oils_27 rfl (lv_at hl 0 rfl) ?_
    refine lv_iload_n hx hb dX6_oils_28 rfl (lv_at hl 1 rfl) ?_
    refine lv_iconst (v := 2) hx hb dX6_oils_29 (by decide) ?_
    refine lv_iconst (v := 0) hx hb dX6_oils_30 (by decide) ?_
    refine x_goV (wn := MW g o (mz r (upd (upd (mZ r) 25 (((mZ r) 25) - 1)) 24 0))) (x_rV (As := [.int 2, .int 2, .int 0]) X (c_X6_lays l g o (mz r (upd (mZ r) 25 (((mZ r) 25) - 1))) 2 2 (by decide) (by decide) 0  _) yf_X6_lays yi_X6_lays wM_X6_29 ⟨Nat.le_of_ble_eq_true rfl, Nat.le_of_ble_eq_true rfl⟩ hP hD (p_all _) 0 rfl rfl hl rfl rfl (Nat.le_of_ble_eq_true rfl) dX6_oils_31 ⟨Nat.zero_le _, Nat.zero_le _⟩) hP hD hS hA (p_all _) (p_back _) (fun H locs hP hD hS => ?_)
    refine lv_aload_n hx hb dX6_oils_34 rfl (lv_at hl 0 rfl) ?_
    refine lv_iload_n hx hb dX6_oils_35 rfl (lv_at hl 1 rfl) ?_
    refine lv_iconst (v := 3) hx hb dX6_oils_36 (by decide) ?_
    refine x_goI (wn := MW g o (mz r (upd (upd (mZ r) 25 (((mZ r) 25) - 1)) 24 0))) (x_rV (As := [.int 2, .int 3]) X (c_X6_of l g o (mz r (upd (upd (mZ r) 25 (((mZ r) 25) - 1)) 24 0)) 2 3 (by decide) (by decide)  _) yf_X6_of yi_X6_of wM_X6_56 ⟨Nat.le_of_ble_eq_true rfl, Nat.le_of_ble_eq_true rfl⟩ hP hD (p_all _) 0 rfl rfl hl rfl rfl (Nat.le_of_ble_eq_true rfl) dX6_oils_37 ⟨Nat.zero_le _, Nat.zero_le _⟩) hP hD hS hA (p_all _) (p_back _) (fun H locs hP hD hS => ?_)
    have E : (MW g o (mz r (upd (upd (mZ r) 25 (((mZ r) 25) - 1)) 24 0)) : va_W) = MW g o (mz r (oilM 22 (mZ r))) := by (simp only [oilM, oilMR, if_neg c_1]) <;> rfl
    exact x_iret X hr hlocks (pw E hP) (dw E hD) hS (by (simp only [oilM, oilMR, if_neg c_1]) <;> rfl) dX6_oils_40

set_option maxHeartbeats 4000000 in
set_option maxRecDepth 100000 in
theorem c_X6_hangs_2 (l : Launch) (g : wG) (o : Nat → Nat) (r : MS) : CtI l g 1 yX6_hangs cX6_hangs 2 (some .int) [.ref (o 0), .int 2] (MW g o r) (1 - mZ r 27) (MW g o (mz r (hanM 22 (mZ r)))) := by
  intro sz
  refine x_enter (Qc := fun A => QI g A (1 - mZ r 27) (MW g o (mz r (hanM 22 (mZ r))))) (by decide) (Nat.le_of_ble_eq_true rfl) ?_
  intro p e s m args below meth c X hr hlocks A hA hP hD hS ls hl
  obtain ⟨⟨hx, hb, hml, hown, hts⟩, hK, hN⟩ := id X
  have hl : lv_has ls 2 [(0, .ref (o 0)), (1, .int 2)] := hl
  refine lv_aload_n hx hb dX6_hangs_0 rfl (lv_at hl 0 rfl) ?_
  refine lv_iload_n hx hb dX6_hangs_1 rfl (lv_at hl 1 rfl) ?_
  refine lv_iconst (v := 5) hx hb dX6_hangs_2 (by decide) ?_
  refine lv_iconst (v := 1) hx hb dX6_hangs_3 (by decide) ?_
  refine lv_aload_n hx hb dX6_hangs_4 rfl (lv_at hl 0 rfl) ?_
  refine lv_iload_n hx hb dX6_hangs_5 rfl (lv_at hl 1 rfl) ?_
  refine lv_iconst (v := 5) hx hb dX6_hangs_6 (by decide) ?_
  refine x_goI (wn := MW g o r) (x_rV (As := [.int 2, .int 5]) X (c_X6_of l g o r 2 5 (by decide) (by decide)  _) yf_X6_of yi_X6_of wM_X6_56 ⟨Nat.le_of_ble_eq_true rfl, Nat.le_of_ble_eq_true rfl⟩ hP hD (p_all _) 0 rfl rfl hl rfl rfl (Nat.le_of_ble_eq_true rfl) dX6_hangs_7 ⟨Nat.zero_le _, Nat.zero_le _⟩) hP hD hS hA (p_all _) (p_back _) (fun H locs hP hD hS => ?_)
  refine lv_isub hx hb dX6_hangs_10 ?_
  refine x_goV (wn := MW g o (mz r (upd (mZ r) 27 (1 - ((mZ r) 27))))) (x_rV (As := [.int 2, .int 5, .int (1 - ((mZ r) 27))]) X (c_X6_lays l g o r 2 5 (by decide) (by decide) (1 - ((mZ r) 27))  _) yf_X6_lays yi_X6_lays wM_X6_29 ⟨Nat.le_of_ble_eq_true rfl, Nat.le_of_ble_eq_true rfl⟩ hP hD (p_all _) 0 rfl rfl hl rfl rfl (Nat.le_of_ble_eq_true rfl) dX6_hangs_11 ⟨Nat.zero_le _, Nat.zero_le _⟩) hP hD hS hA (p_all _) (p_back _) (fun H locs hP hD hS => ?_)
  refine lv_aload_n hx hb dX6_hangs_14 rfl (lv_at hl 0 rfl) ?_
  refine lv_iload_n hx hb dX6_hangs_15 rfl (lv_at hl 1 rfl) ?_
  refine lv_iconst (v := 5) hx hb dX6_hangs_16 (by decide) ?_
  refine x_goI (wn := MW g o (mz r (upd (mZ r) 27 (1 - ((mZ r) 27))))) (x_rV (As := [.int 2, .int 5]) X (c_X6_of l g o (mz r (upd (mZ r) 27 (1 - ((mZ r) 27)))) 2 5 (by decide) (by decide)  _) yf_X6_of yi_X6_of wM_X6_56 ⟨Nat.le_of_ble_eq_true rfl, Nat.le_of_ble_eq_true rfl⟩ hP hD (p_all _) 0 rfl rfl hl rfl rfl (Nat.le_of_ble_eq_true rfl) dX6_hangs_17 ⟨Nat.zero_le _, Nat.zero_le _⟩) hP hD hS hA (p_all _) (p_back _) (fun H locs hP hD hS => ?_)
  have E : (MW g o (mz r (upd (mZ r) 27 (1 - ((mZ r) 27)))) : va_W) = MW g o (mz r (hanM 22 (mZ r))) := by rfl
  exact x_iret X hr hlocks (pw E hP) (dw E hD) hS rfl dX6_hangs_20

set_option maxHeartbeats 4000000 in
set_option maxRecDepth 100000 in
theorem c_X6_dials_2 (l : Launch) (g : wG) (o : Nat → Nat) (r : MS) (x : Int32) : CtI l g 1 yX6_dials cX6_dials 4 (some .int) [.ref (o 0), .int 2, .int x] (MW g o r) (distM (mZ r 22) x) (MW g o (mz r (upd (mZ r) 22 x))) := by
  intro sz
  refine x_enter (Qc := fun A => QI g A (distM (mZ r 22) x) (MW g o (mz r (upd (mZ r) 22 x)))) (by decide) (Nat.le_of_ble_eq_true rfl) ?_
  intro p e s m args below meth c X hr hlocks A hA hP hD hS ls hl
  obtain ⟨⟨hx, hb, hml, hown, hts⟩, hK, hN⟩ := id X
  have hl : lv_has ls 4 [(0, .ref (o 0)), (1, .int 2), (2, .int x)] := hl
  refine lv_aload_n hx hb dX6_dials_0 rfl (lv_at hl 0 rfl) ?_
  refine lv_iload_n hx hb dX6_dials_1 rfl (lv_at hl 1 rfl) ?_
  refine lv_iconst (v := 0) hx hb dX6_dials_2 (by decide) ?_
  refine x_goI (wn := MW g o r) (x_rV (As := [.int 2, .int 0]) X (c_X6_of l g o r 2 0 (by decide) (by decide)  _) yf_X6_of yi_X6_of wM_X6_56 ⟨Nat.le_of_ble_eq_true rfl, Nat.le_of_ble_eq_true rfl⟩ hP hD (p_all _) 0 rfl rfl hl rfl rfl (Nat.le_of_ble_eq_true rfl) dX6_dials_3 ⟨Nat.zero_le _, Nat.zero_le _⟩) hP hD hS hA (p_all _) (p_back _) (fun H locs hP hD hS => ?_)
  refine lv_iload_n hx hb dX6_dials_6 rfl (lv_at hl 2 rfl) ?_
  refine x_goI (wn := MW g o r) (x_rS (As := [.int ((mZ r) 22), .int x]) X (c_X6_distance l g ((mZ r) 22) x _) yf_X6_distance ys_X6_distance wM_X6_64 ⟨Nat.le_of_ble_eq_true rfl, Nat.le_of_ble_eq_true rfl⟩ hP hD (p_none _) hl rfl rfl (Nat.le_of_ble_eq_true rfl) dX6_dials_7 ⟨Nat.zero_le _, Nat.zero_le _⟩) hP hD hS hA (p_none _) (p_noneB _) (fun H locs hP hD hS => ?_)
  refine lv_istore_n (lv' := [(3, .int (distM ((mZ r) 22) x)), (0, .ref (o 0)), (1, .int 2), (2, .int x)]) hx hb dX6_dials_10 rfl hl (by decide) rfl (fun ls hl => ?_)
  refine lv_aload_n hx hb dX6_dials_11 rfl (lv_at hl 1 rfl) ?_
  refine lv_iload_n hx hb dX6_dials_12 rfl (lv_at hl 2 rfl) ?_
  refine lv_iconst (v := 0) hx hb dX6_dials_13 (by decide) ?_
  refine lv_iload_n hx hb dX6_dials_14 rfl (lv_at hl 3 rfl) ?_
  refine x_goV (wn := MW g o (mz r (upd (mZ r) 22 x))) (x_rV (As := [.int 2, .int 0, .int x]) X (c_X6_lays l g o r 2 0 (by decide) (by decide) x  _) yf_X6_lays yi_X6_lays wM_X6_29 ⟨Nat.le_of_ble_eq_true rfl, Nat.le_of_ble_eq_true rfl⟩ hP hD (p_all _) 0 rfl rfl hl rfl rfl (Nat.le_of_ble_eq_true rfl) dX6_dials_15 ⟨Nat.zero_le _, Nat.zero_le _⟩) hP hD hS hA (p_all _) (p_back _) (fun H locs hP hD hS => ?_)
  refine lv_iload_n hx hb dX6_dials_18 rfl (lv_at hl 0 rfl) ?_
  exact x_iret X hr hlocks hP hD hS rfl dX6_dials_19

set_option maxHeartbeats 4000000 in
set_option maxRecDepth 100000 in
theorem c_X6_turns_2 (l : Launch) (g : wG) (o : Nat → Nat) (r : MS) : CtI l g 1 yX6_turns cX6_turns 5 (some .int) [.ref (o 0), .int 2] (MW g o r) ((turnM 22 (mZ r)).2) (MW g o (mz r ((turnM 22 (mZ r)).1))) := by
  intro sz
  refine x_enter (Qc := fun A => QI g A ((turnM 22 (mZ r)).2) (MW g o (mz r ((turnM 22 (mZ r)).1)))) (by decide) (Nat.le_of_ble_eq_true rfl) ?_
  intro p e s m args below meth c X hr hlocks A hA hP hD hS ls hl
  obtain ⟨⟨hx, hb, hml, hown, hts⟩, hK, hN⟩ := id X
  have hl : lv_has ls 5 [(0, .ref (o 0)), (1, .int 2)] := hl
  refine lv_aload_n hx hb dX6_turns_0 rfl (lv_at hl 0 rfl) ?_
  refine lv_iload_n hx hb dX6_turns_1 rfl (lv_at hl 1 rfl) ?_
  refine lv_iconst (v := 2) hx hb dX6_turns_2 (by decide) ?_
  refine x_goI (wn := MW g o r) (x_rV (As := [.int 2, .int 2]) X (c_X6_of l g o r 2 2 (by decide) (by decide)  _) yf_X6_of yi_X6_of wM_X6_56 ⟨Nat.le_of_ble_eq_true rfl, Nat.le_of_ble_eq_true rfl⟩ hP hD (p_all _) 0 rfl rfl hl rfl rfl (Nat.le_of_ble_eq_true rfl) dX6_turns_3 ⟨Nat.zero_le _, Nat.zero_le _⟩) hP hD hS hA (p_all _) (p_back _) (fun H locs hP hD hS => ?_)
  refine lv_aload_n hx hb dX6_turns_6 rfl (lv_at hl 0 rfl) ?_
  refine x_get (v := .ref (o 1)) X 0 0 in_X6 hP rfl rfl (by decide) wF_X6_7 rfl rfl dX6_turns_7 ?_
  refine lv_iconst (v := 1) hx hb dX6_turns_10 (by decide) ?_
  refine x_iald (v := ((mZ r) 1)) X 1 1 hP rfl rfl (by decide) (Nat.le_of_ble_eq_true rfl) rfl dX6_turns_11 ?_
  refine lv_iadd hx hb dX6_turns_12 ?_
  refine lv_aload_n hx hb dX6_turns_13 rfl (lv_at hl 0 rfl) ?_
  refine lv_iload_n hx hb dX6_turns_14 rfl (lv_at hl 1 rfl) ?_
  refine lv_iconst (v := 3) hx hb dX6_turns_15 (by decide) ?_
  refine x_goI (wn := MW g o r) (x_rV (As := [.int 2, .int 3]) X (c_X6_of l g o r 2 3 (by decide) (by decide)  _) yf_X6_of yi_X6_of wM_X6_56 ⟨Nat.le_of_ble_eq_true rfl, Nat.le_of_ble_eq_true rfl⟩ hP hD (p_all _) 0 rfl rfl hl rfl rfl (Nat.le_of_ble_eq_true rfl) dX6_turns_16 ⟨Nat.zero_le _, Nat.zero_le _⟩) hP hD hS hA (p_all _) (p_back _) (fun H locs hP hD hS => ?_)
  refine lv_iadd hx hb dX6_turns_19 ?_
  refine lv_istore_n (lv' := [(2, .int ((((mZ r) 24) + ((mZ r) 1)) + ((mZ r) 25))), (0, .ref (o 0)), (1, .int 2)]) hx hb dX6_turns_20 rfl hl (by decide) rfl (fun ls hl => ?_)
  refine lv_bipush (v := 10) hx hb dX6_turns_21 (by decide) ?_
  refine lv_aload_n hx hb dX6_turns_23 rfl (lv_at hl 1 rfl) ?_
  refine lv_iload_n hx hb dX6_turns_24 rfl (lv_at hl 2 rfl) ?_
  refine lv_iconst (v := 1) hx hb dX6_turns_25 (by decide) ?_
  refine x_goI (wn := MW g o r) (x_rV (As := [.int 2, .int 1]) X (c_X6_of l g o r 2 1 (by decide) (by decide)  _) yf_X6_of yi_X6_of wM_X6_56 ⟨Nat.le_of_ble_eq_true rfl, Nat.le_of_ble_eq_true rfl⟩ hP hD (p_all _) 0 rfl rfl hl rfl rfl (Nat.le_of_ble_eq_true rfl) dX6_turns_26 ⟨Nat.zero_le _, Nat.zero_le _⟩) hP hD hS hA (p_all _) (p_back _) (fun H locs hP hD hS => ?_)
  refine lv_imul hx hb dX6_turns_29 ?_
  refine lv_istore_n (lv' := [(3, .int (10 * ((mZ r) 23))), (2, .int ((((mZ r) 24) + ((mZ r) 1)) + ((mZ r) 25))), (0, .ref (o 0)), (1, .int 2)]) hx hb dX6_turns_30 rfl hl (by decide) rfl (fun ls hl => ?_)
  refine lv_iload_n hx hb dX6_turns_31 rfl (lv_at hl 1 rfl) ?_
  refine lv_iload_n hx hb dX6_turns_32 rfl (lv_at hl 0 rfl) ?_
  refine lv_icmp_lt (tgt := 97) hx hb dX6_turns_33 (by decide) (fun (c_1 : ((((mZ r) 24) + ((mZ r) 1)) + ((mZ r) 25)) < (10 * ((mZ r) 23))) => ?_) (fun (c_1 : ¬ ((((mZ r) 24) + ((mZ r) 1)) + ((mZ r) 25)) < (10 * ((mZ r) 23))) => ?_)
  · refine lv_aload_n hx hb dX6_turns_97 rfl (lv_at hl 2 rfl) ?_
    refine lv_iload_n hx hb dX6_turns_98 rfl (lv_at hl 3 rfl) ?_
    refine lv_iconst (v := 2) hx hb dX6_turns_99 (by decide) ?_
    refine lv_iload_n hx hb dX6_turns_100 rfl (lv_at hl 1 rfl) ?_
    refine x_goV (wn := MW g o (mz r (upd (mZ r) 24 ((((mZ r) 24) + ((mZ r) 1)) + ((mZ r) 25))))) (x_rV (As := [.int 2, .int 2, .int ((((mZ r) 24) + ((mZ r) 1)) + ((mZ r) 25))]) X (c_X6_lays l g o r 2 2 (by decide) (by decide) ((((mZ r) 24) + ((mZ r) 1)) + ((mZ r) 25))  _) yf_X6_lays yi_X6_lays wM_X6_29 ⟨Nat.le_of_ble_eq_true rfl, Nat.le_of_ble_eq_true rfl⟩ hP hD (p_all _) 0 rfl rfl hl rfl rfl (Nat.le_of_ble_eq_true rfl) dX6_turns_101 ⟨Nat.zero_le _, Nat.zero_le _⟩) hP hD hS hA (p_all _) (p_back _) (fun H locs hP hD hS => ?_)
    refine lv_aload_n hx hb dX6_turns_104 rfl (lv_at hl 2 rfl) ?_
    refine lv_iload_n hx hb dX6_turns_105 rfl (lv_at hl 3 rfl) ?_
    refine lv_iconst (v := 0) hx hb dX6_turns_106 (by decide) ?_
    refine lv_aload_n hx hb dX6_turns_107 rfl (lv_at hl 2 rfl) ?_
    refine lv_iload_n hx hb dX6_turns_108 rfl (lv_at hl 3 rfl) ?_
    refine lv_iconst (v := 0) hx hb dX6_turns_109 (by decide) ?_
    refine x_goI (wn := MW g o (mz r (upd (mZ r) 24 ((((mZ r) 24) + ((mZ r) 1)) + ((mZ r) 25))))) (x_rV (As := [.int 2, .int 0]) X (c_X6_of l g o (mz r (upd (mZ r) 24 ((((mZ r) 24) + ((mZ r) 1)) + ((mZ r) 25)))) 2 0 (by decide) (by decide)  _) yf_X6_of yi_X6_of wM_X6_56 ⟨Nat.le_of_ble_eq_true rfl, Nat.le_of_ble_eq_true rfl⟩ hP hD (p_all _) 0 rfl rfl hl rfl rfl (Nat.le_of_ble_eq_true rfl) dX6_turns_110 ⟨Nat.zero_le _, Nat.zero_le _⟩) hP hD hS hA (p_all _) (p_back _) (fun H locs hP hD hS => ?_)
    refine lv_iconst (v := 1) hx hb dX6_turns_113 (by decide) ?_
    refine lv_iadd hx hb dX6_turns_114 ?_
    refine lv_sipush (v := 720) hx hb dX6_turns_115 (by decide) ?_
    refine lv_irem hx hb dX6_turns_118 (by decide) ?_
    refine x_goV (wn := MW g o (mz r (upd (upd (mZ r) 24 ((((mZ r) 24) + ((mZ r) 1)) + ((mZ r) 25))) 22 (jrem (((mZ r) 22) + 1) 720)))) (x_rV (As := [.int 2, .int 0, .int (jrem (((mZ r) 22) + 1) 720)]) X (c_X6_lays l g o (mz r (upd (mZ r) 24 ((((mZ r) 24) + ((mZ r) 1)) + ((mZ r) 25)))) 2 0 (by decide) (by decide) (jrem (((mZ r) 22) + 1) 720)  _) yf_X6_lays yi_X6_lays wM_X6_29 ⟨Nat.le_of_ble_eq_true rfl, Nat.le_of_ble_eq_true rfl⟩ hP hD (p_all _) 0 rfl rfl hl rfl rfl (Nat.le_of_ble_eq_true rfl) dX6_turns_119 ⟨Nat.zero_le _, Nat.zero_le _⟩) hP hD hS hA (p_all _) (p_back _) (fun H locs hP hD hS => ?_)
    refine lv_aload_n hx hb dX6_turns_122 rfl (lv_at hl 2 rfl) ?_
    refine lv_iload_n hx hb dX6_turns_123 rfl (lv_at hl 3 rfl) ?_
    refine lv_iconst (v := 5) hx hb dX6_turns_124 (by decide) ?_
    refine x_goI (wn := MW g o (mz r (upd (upd (mZ r) 24 ((((mZ r) 24) + ((mZ r) 1)) + ((mZ r) 25))) 22 (jrem (((mZ r) 22) + 1) 720)))) (x_rV (As := [.int 2, .int 5]) X (c_X6_of l g o (mz r (upd (upd (mZ r) 24 ((((mZ r) 24) + ((mZ r) 1)) + ((mZ r) 25))) 22 (jrem (((mZ r) 22) + 1) 720))) 2 5 (by decide) (by decide)  _) yf_X6_of yi_X6_of wM_X6_56 ⟨Nat.le_of_ble_eq_true rfl, Nat.le_of_ble_eq_true rfl⟩ hP hD (p_all _) 0 rfl rfl hl rfl rfl (Nat.le_of_ble_eq_true rfl) dX6_turns_125 ⟨Nat.zero_le _, Nat.zero_le _⟩) hP hD hS hA (p_all _) (p_back _) (fun H locs hP hD hS => ?_)
    refine lv_iconst (v := 1) hx hb dX6_turns_128 (by decide) ?_
    refine lv_icmp_ne (tgt := 144) hx hb dX6_turns_129 (by decide) (fun (c_2 : ¬ ((mZ r) 27) = 1) => ?_) (fun (c_2 : ((mZ r) 27) = 1) => ?_)
    · refine lv_iconst (v := 0) hx hb dX6_turns_144 (by decide) ?_
      refine lv_istore (lv' := [(4, .int 0), (3, .int (10 * ((mZ r) 23))), (2, .int ((((mZ r) 24) + ((mZ r) 1)) + ((mZ r) 25))), (0, .ref (o 0)), (1, .int 2)]) hx hb dX6_turns_145 hl (by decide) rfl (fun ls hl => ?_)
      refine lv_aload_n hx hb dX6_turns_147 rfl (lv_at hl 3 rfl) ?_
      refine lv_iload_n hx hb dX6_turns_148 rfl (lv_at hl 4 rfl) ?_
      refine lv_bipush (v := 6) hx hb dX6_turns_149 (by decide) ?_
      refine lv_aload_n hx hb dX6_turns_151 rfl (lv_at hl 3 rfl) ?_
      refine lv_iload_n hx hb dX6_turns_152 rfl (lv_at hl 4 rfl) ?_
      refine lv_bipush (v := 6) hx hb dX6_turns_153 (by decide) ?_
      refine x_goI (wn := MW g o (mz r (upd (upd (mZ r) 24 ((((mZ r) 24) + ((mZ r) 1)) + ((mZ r) 25))) 22 (jrem (((mZ r) 22) + 1) 720)))) (x_rV (As := [.int 2, .int 6]) X (c_X6_of l g o (mz r (upd (upd (mZ r) 24 ((((mZ r) 24) + ((mZ r) 1)) + ((mZ r) 25))) 22 (jrem (((mZ r) 22) + 1) 720))) 2 6 (by decide) (by decide)  _) yf_X6_of yi_X6_of wM_X6_56 ⟨Nat.le_of_ble_eq_true rfl, Nat.le_of_ble_eq_true rfl⟩ hP hD (p_all _) 0 rfl rfl hl rfl rfl (Nat.le_of_ble_eq_true rfl) dX6_turns_155 ⟨Nat.zero_le _, Nat.zero_le _⟩) hP hD hS hA (p_all _) (p_back _) (fun H locs hP hD hS => ?_)
      refine lv_iload hx hb dX6_turns_158 (lv_at hl 0 rfl) ?_
      refine lv_iadd hx hb dX6_turns_160 ?_
      refine x_goV (wn := MW g o (mz r (upd (upd (upd (mZ r) 24 ((((mZ r) 24) + ((mZ r) 1)) + ((mZ r) 25))) 22 (jrem (((mZ r) 22) + 1) 720)) 28 (((mZ r) 28) + 0)))) (x_rV (As := [.int 2, .int 6, .int (((mZ r) 28) + 0)]) X (c_X6_lays l g o (mz r (upd (upd (mZ r) 24 ((((mZ r) 24) + ((mZ r) 1)) + ((mZ r) 25))) 22 (jrem (((mZ r) 22) + 1) 720))) 2 6 (by decide) (by decide) (((mZ r) 28) + 0)  _) yf_X6_lays yi_X6_lays wM_X6_29 ⟨Nat.le_of_ble_eq_true rfl, Nat.le_of_ble_eq_true rfl⟩ hP hD (p_all _) 0 rfl rfl hl rfl rfl (Nat.le_of_ble_eq_true rfl) dX6_turns_161 ⟨Nat.zero_le _, Nat.zero_le _⟩) hP hD hS hA (p_all _) (p_back _) (fun H locs hP hD hS => ?_)
      refine lv_iload hx hb dX6_turns_164 (lv_at hl 0 rfl) ?_
      have E : (MW g o (mz r (upd (upd (upd (mZ r) 24 ((((mZ r) 24) + ((mZ r) 1)) + ((mZ r) 25))) 22 (jrem (((mZ r) 22) + 1) 720)) 28 (((mZ r) 28) + 0))) : va_W) = MW g o (mz r ((turnM 22 (mZ r)).1)) := by (simp only [turnM, ssM, stM, if_pos c_1, if_neg c_2]) <;> rfl
      exact x_iret X hr hlocks (pw E hP) (dw E hD) hS (by (simp only [turnM, ssM, stM, if_pos c_1, if_neg c_2]) <;> rfl) dX6_turns_166
    · refine lv_aload_n hx hb dX6_turns_132 rfl (lv_at hl 2 rfl) ?_
      refine lv_iload_n hx hb dX6_turns_133 rfl (lv_at hl 3 rfl) ?_
      refine lv_iconst (v := 0) hx hb dX6_turns_134 (by decide) ?_
      refine x_goI (wn := MW g o (mz r (upd (upd (mZ r) 24 ((((mZ r) 24) + ((mZ r) 1)) + ((mZ r) 25))) 22 (jrem (((mZ r) 22) + 1) 720)))) (x_rV (As := [.int 2, .int 0]) X (c_X6_of l g o (mz r (upd (upd (mZ r) 24 ((((mZ r) 24) + ((mZ r) 1)) + ((mZ r) 25))) 22 (jrem (((mZ r) 22) + 1) 720))) 2 0 (by decide) (by decide)  _) yf_X6_of yi_X6_of wM_X6_56 ⟨Nat.le_of_ble_eq_true rfl, Nat.le_of_ble_eq_true rfl⟩ hP hD (p_all _) 0 rfl rfl hl rfl rfl (Nat.le_of_ble_eq_true rfl) dX6_turns_135 ⟨Nat.zero_le _, Nat.zero_le _⟩) hP hD hS hA (p_all _) (p_back _) (fun H locs hP hD hS => ?_)
      refine x_goI (wn := MW g o (mz r (upd (upd (mZ r) 24 ((((mZ r) 24) + ((mZ r) 1)) + ((mZ r) 25))) 22 (jrem (((mZ r) 22) + 1) 720)))) (x_rS (As := [.int (jrem (((mZ r) 22) + 1) 720)]) X (c_X6_strikesAt l g (jrem (((mZ r) 22) + 1) 720) _) yf_X6_strikesAt ys_X6_strikesAt wM_X6_73 ⟨Nat.le_of_ble_eq_true rfl, Nat.le_of_ble_eq_true rfl⟩ hP hD (p_none _) hl rfl rfl (Nat.le_of_ble_eq_true rfl) dX6_turns_138 ⟨Nat.zero_le _, Nat.zero_le _⟩) hP hD hS hA (p_none _) (p_noneB _) (fun H locs hP hD hS => ?_)
      refine lv_goto (tgt := 145) hx hb dX6_turns_141 (by decide) ?_
      refine lv_istore (lv' := [(4, .int (strM (jrem (((mZ r) 22) + 1) 720))), (3, .int (10 * ((mZ r) 23))), (2, .int ((((mZ r) 24) + ((mZ r) 1)) + ((mZ r) 25))), (0, .ref (o 0)), (1, .int 2)]) hx hb dX6_turns_145 hl (by decide) rfl (fun ls hl => ?_)
      refine lv_aload_n hx hb dX6_turns_147 rfl (lv_at hl 3 rfl) ?_
      refine lv_iload_n hx hb dX6_turns_148 rfl (lv_at hl 4 rfl) ?_
      refine lv_bipush (v := 6) hx hb dX6_turns_149 (by decide) ?_
      refine lv_aload_n hx hb dX6_turns_151 rfl (lv_at hl 3 rfl) ?_
      refine lv_iload_n hx hb dX6_turns_152 rfl (lv_at hl 4 rfl) ?_
      refine lv_bipush (v := 6) hx hb dX6_turns_153 (by decide) ?_
      refine x_goI (wn := MW g o (mz r (upd (upd (mZ r) 24 ((((mZ r) 24) + ((mZ r) 1)) + ((mZ r) 25))) 22 (jrem (((mZ r) 22) + 1) 720)))) (x_rV (As := [.int 2, .int 6]) X (c_X6_of l g o (mz r (upd (upd (mZ r) 24 ((((mZ r) 24) + ((mZ r) 1)) + ((mZ r) 25))) 22 (jrem (((mZ r) 22) + 1) 720))) 2 6 (by decide) (by decide)  _) yf_X6_of yi_X6_of wM_X6_56 ⟨Nat.le_of_ble_eq_true rfl, Nat.le_of_ble_eq_true rfl⟩ hP hD (p_all _) 0 rfl rfl hl rfl rfl (Nat.le_of_ble_eq_true rfl) dX6_turns_155 ⟨Nat.zero_le _, Nat.zero_le _⟩) hP hD hS hA (p_all _) (p_back _) (fun H locs hP hD hS => ?_)
      refine lv_iload hx hb dX6_turns_158 (lv_at hl 0 rfl) ?_
      refine lv_iadd hx hb dX6_turns_160 ?_
      refine x_goV (wn := MW g o (mz r (upd (upd (upd (mZ r) 24 ((((mZ r) 24) + ((mZ r) 1)) + ((mZ r) 25))) 22 (jrem (((mZ r) 22) + 1) 720)) 28 (((mZ r) 28) + (strM (jrem (((mZ r) 22) + 1) 720)))))) (x_rV (As := [.int 2, .int 6, .int (((mZ r) 28) + (strM (jrem (((mZ r) 22) + 1) 720)))]) X (c_X6_lays l g o (mz r (upd (upd (mZ r) 24 ((((mZ r) 24) + ((mZ r) 1)) + ((mZ r) 25))) 22 (jrem (((mZ r) 22) + 1) 720))) 2 6 (by decide) (by decide) (((mZ r) 28) + (strM (jrem (((mZ r) 22) + 1) 720)))  _) yf_X6_lays yi_X6_lays wM_X6_29 ⟨Nat.le_of_ble_eq_true rfl, Nat.le_of_ble_eq_true rfl⟩ hP hD (p_all _) 0 rfl rfl hl rfl rfl (Nat.le_of_ble_eq_true rfl) dX6_turns_161 ⟨Nat.zero_le _, Nat.zero_le _⟩) hP hD hS hA (p_all _) (p_back _) (fun H locs hP hD hS => ?_)
      refine lv_iload hx hb dX6_turns_164 (lv_at hl 0 rfl) ?_
      have E : (MW g o (mz r (upd (upd (upd (mZ r) 24 ((((mZ r) 24) + ((mZ r) 1)) + ((mZ r) 25))) 22 (jrem (((mZ r) 22) + 1) 720)) 28 (((mZ r) 28) + (strM (jrem (((mZ r) 22) + 1) 720))))) : va_W) = MW g o (mz r ((turnM 22 (mZ r)).1)) := by (simp only [turnM, ssM, stM, if_pos c_1, if_pos c_2]) <;> rfl
      exact x_iret X hr hlocks (pw E hP) (dw E hD) hS (by (simp only [turnM, ssM, stM, if_pos c_1, if_pos c_2]) <;> rfl) dX6_turns_166
  · refine lv_aload_n hx hb dX6_turns_36 rfl (lv_at hl 2 rfl) ?_
    refine lv_iload_n hx hb dX6_turns_37 rfl (lv_at hl 3 rfl) ?_
    refine lv_iconst (v := 2) hx hb dX6_turns_38 (by decide) ?_
    refine lv_iload_n hx hb dX6_turns_39 rfl (lv_at hl 1 rfl) ?_
    refine lv_iload_n hx hb dX6_turns_40 rfl (lv_at hl 0 rfl) ?_
    refine lv_isub hx hb dX6_turns_41 ?_
    refine x_goV (wn := MW g o (mz r (upd (mZ r) 24 (((((mZ r) 24) + ((mZ r) 1)) + ((mZ r) 25)) - (10 * ((mZ r) 23)))))) (x_rV (As := [.int 2, .int 2, .int (((((mZ r) 24) + ((mZ r) 1)) + ((mZ r) 25)) - (10 * ((mZ r) 23)))]) X (c_X6_lays l g o r 2 2 (by decide) (by decide) (((((mZ r) 24) + ((mZ r) 1)) + ((mZ r) 25)) - (10 * ((mZ r) 23)))  _) yf_X6_lays yi_X6_lays wM_X6_29 ⟨Nat.le_of_ble_eq_true rfl, Nat.le_of_ble_eq_true rfl⟩ hP hD (p_all _) 0 rfl rfl hl rfl rfl (Nat.le_of_ble_eq_true rfl) dX6_turns_42 ⟨Nat.zero_le _, Nat.zero_le _⟩) hP hD hS hA (p_all _) (p_back _) (fun H locs hP hD hS => ?_)
    refine lv_aload_n hx hb dX6_turns_45 rfl (lv_at hl 2 rfl) ?_
    refine lv_iload_n hx hb dX6_turns_46 rfl (lv_at hl 3 rfl) ?_
    refine lv_iconst (v := 4) hx hb dX6_turns_47 (by decide) ?_
    refine lv_aload_n hx hb dX6_turns_48 rfl (lv_at hl 2 rfl) ?_
    refine lv_iload_n hx hb dX6_turns_49 rfl (lv_at hl 3 rfl) ?_
    refine lv_iconst (v := 4) hx hb dX6_turns_50 (by decide) ?_
    refine x_goI (wn := MW g o (mz r (upd (mZ r) 24 (((((mZ r) 24) + ((mZ r) 1)) + ((mZ r) 25)) - (10 * ((mZ r) 23)))))) (x_rV (As := [.int 2, .int 4]) X (c_X6_of l g o (mz r (upd (mZ r) 24 (((((mZ r) 24) + ((mZ r) 1)) + ((mZ r) 25)) - (10 * ((mZ r) 23))))) 2 4 (by decide) (by decide)  _) yf_X6_of yi_X6_of wM_X6_56 ⟨Nat.le_of_ble_eq_true rfl, Nat.le_of_ble_eq_true rfl⟩ hP hD (p_all _) 0 rfl rfl hl rfl rfl (Nat.le_of_ble_eq_true rfl) dX6_turns_51 ⟨Nat.zero_le _, Nat.zero_le _⟩) hP hD hS hA (p_all _) (p_back _) (fun H locs hP hD hS => ?_)
    refine lv_iconst (v := 1) hx hb dX6_turns_54 (by decide) ?_
    refine lv_iadd hx hb dX6_turns_55 ?_
    refine x_goV (wn := MW g o (mz r (upd (upd (mZ r) 24 (((((mZ r) 24) + ((mZ r) 1)) + ((mZ r) 25)) - (10 * ((mZ r) 23)))) 26 (((mZ r) 26) + 1)))) (x_rV (As := [.int 2, .int 4, .int (((mZ r) 26) + 1)]) X (c_X6_lays l g o (mz r (upd (mZ r) 24 (((((mZ r) 24) + ((mZ r) 1)) + ((mZ r) 25)) - (10 * ((mZ r) 23))))) 2 4 (by decide) (by decide) (((mZ r) 26) + 1)  _) yf_X6_lays yi_X6_lays wM_X6_29 ⟨Nat.le_of_ble_eq_true rfl, Nat.le_of_ble_eq_true rfl⟩ hP hD (p_all _) 0 rfl rfl hl rfl rfl (Nat.le_of_ble_eq_true rfl) dX6_turns_56 ⟨Nat.zero_le _, Nat.zero_le _⟩) hP hD hS hA (p_all _) (p_back _) (fun H locs hP hD hS => ?_)
    refine lv_aload_n hx hb dX6_turns_59 rfl (lv_at hl 2 rfl) ?_
    refine lv_iload_n hx hb dX6_turns_60 rfl (lv_at hl 3 rfl) ?_
    refine lv_iconst (v := 4) hx hb dX6_turns_61 (by decide) ?_
    refine x_goI (wn := MW g o (mz r (upd (upd (mZ r) 24 (((((mZ r) 24) + ((mZ r) 1)) + ((mZ r) 25)) - (10 * ((mZ r) 23)))) 26 (((mZ r) 26) + 1)))) (x_rV (As := [.int 2, .int 4]) X (c_X6_of l g o (mz r (upd (upd (mZ r) 24 (((((mZ r) 24) + ((mZ r) 1)) + ((mZ r) 25)) - (10 * ((mZ r) 23)))) 26 (((mZ r) 26) + 1))) 2 4 (by decide) (by decide)  _) yf_X6_of yi_X6_of wM_X6_56 ⟨Nat.le_of_ble_eq_true rfl, Nat.le_of_ble_eq_true rfl⟩ hP hD (p_all _) 0 rfl rfl hl rfl rfl (Nat.le_of_ble_eq_true rfl) dX6_turns_62 ⟨Nat.zero_le _, Nat.zero_le _⟩) hP hD hS hA (p_all _) (p_back _) (fun H locs hP hD hS => ?_)
    refine lv_iconst (v := 3) hx hb dX6_turns_65 (by decide) ?_
    refine lv_irem hx hb dX6_turns_66 (by decide) ?_
    refine lv_if_ne (tgt := 95) hx hb dX6_turns_67 (by decide) (fun (c_3 : ¬ (jrem (((mZ r) 26) + 1) 3) = 0) => ?_) (fun (c_3 : (jrem (((mZ r) 26) + 1) 3) = 0) => ?_)
    · refine lv_iconst (v := 0) hx hb dX6_turns_95 (by decide) ?_
      have E : (MW g o (mz r (upd (upd (mZ r) 24 (((((mZ r) 24) + ((mZ r) 1)) + ((mZ r) 25)) - (10 * ((mZ r) 23)))) 26 (((mZ r) 26) + 1))) : va_W) = MW g o (mz r ((turnM 22 (mZ r)).1)) := by (simp only [turnM, ssM, stM, if_neg c_1, if_neg c_3]) <;> rfl
      exact x_iret X hr hlocks (pw E hP) (dw E hD) hS (by (simp only [turnM, ssM, stM, if_neg c_1, if_neg c_3]) <;> rfl) dX6_turns_96
    · refine lv_aload_n hx hb dX6_turns_70 rfl (lv_at hl 2 rfl) ?_
      refine lv_iload_n hx hb dX6_turns_71 rfl (lv_at hl 3 rfl) ?_
      refine lv_iconst (v := 3) hx hb dX6_turns_72 (by decide) ?_
      refine x_goI (wn := MW g o (mz r (upd (upd (mZ r) 24 (((((mZ r) 24) + ((mZ r) 1)) + ((mZ r) 25)) - (10 * ((mZ r) 23)))) 26 (((mZ r) 26) + 1)))) (x_rV (As := [.int 2, .int 3]) X (c_X6_of l g o (mz r (upd (upd (mZ r) 24 (((((mZ r) 24) + ((mZ r) 1)) + ((mZ r) 25)) - (10 * ((mZ r) 23)))) 26 (((mZ r) 26) + 1))) 2 3 (by decide) (by decide)  _) yf_X6_of yi_X6_of wM_X6_56 ⟨Nat.le_of_ble_eq_true rfl, Nat.le_of_ble_eq_true rfl⟩ hP hD (p_all _) 0 rfl rfl hl rfl rfl (Nat.le_of_ble_eq_true rfl) dX6_turns_73 ⟨Nat.zero_le _, Nat.zero_le _⟩) hP hD hS hA (p_all _) (p_back _) (fun H locs hP hD hS => ?_)
      refine lv_bipush (v := 9) hx hb dX6_turns_76 (by decide) ?_
      refine lv_icmp_ge (tgt := 95) hx hb dX6_turns_78 (by decide) (fun (c_4 : 9 ≤ ((mZ r) 25)) => ?_) (fun (c_4 : ¬ 9 ≤ ((mZ r) 25)) => ?_)
      · refine lv_iconst (v := 0) hx hb dX6_turns_95 (by decide) ?_
        have E : (MW g o (mz r (upd (upd (mZ r) 24 (((((mZ r) 24) + ((mZ r) 1)) + ((mZ r) 25)) - (10 * ((mZ r) 23)))) 26 (((mZ r) 26) + 1))) : va_W) = MW g o (mz r ((turnM 22 (mZ r)).1)) := by (simp only [turnM, ssM, stM, if_neg c_1, if_pos c_3, if_pos c_4]) <;> rfl
        exact x_iret X hr hlocks (pw E hP) (dw E hD) hS (by (simp only [turnM, ssM, stM, if_neg c_1, if_pos c_3, if_pos c_4]) <;> rfl) dX6_turns_96
      · refine lv_aload_n hx hb dX6_turns_81 rfl (lv_at hl 2 rfl) ?_
        refine lv_iload_n hx hb dX6_turns_82 rfl (lv_at hl 3 rfl) ?_
        refine lv_iconst (v := 3) hx hb dX6_turns_83 (by decide) ?_
        refine lv_aload_n hx hb dX6_turns_84 rfl (lv_at hl 2 rfl) ?_
        refine lv_iload_n hx hb dX6_turns_85 rfl (lv_at hl 3 rfl) ?_
        refine lv_iconst (v := 3) hx hb dX6_turns_86 (by decide) ?_
        refine x_goI (wn := MW g o (mz r (upd (upd (mZ r) 24 (((((mZ r) 24) + ((mZ r) 1)) + ((mZ r) 25)) - (10 * ((mZ r) 23)))) 26 (((mZ r) 26) + 1)))) (x_rV (As := [.int 2, .int 3]) X (c_X6_of l g o (mz r (upd (upd (mZ r) 24 (((((mZ r) 24) + ((mZ r) 1)) + ((mZ r) 25)) - (10 * ((mZ r) 23)))) 26 (((mZ r) 26) + 1))) 2 3 (by decide) (by decide)  _) yf_X6_of yi_X6_of wM_X6_56 ⟨Nat.le_of_ble_eq_true rfl, Nat.le_of_ble_eq_true rfl⟩ hP hD (p_all _) 0 rfl rfl hl rfl rfl (Nat.le_of_ble_eq_true rfl) dX6_turns_87 ⟨Nat.zero_le _, Nat.zero_le _⟩) hP hD hS hA (p_all _) (p_back _) (fun H locs hP hD hS => ?_)
        refine lv_iconst (v := 1) hx hb dX6_turns_90 (by decide) ?_
        refine lv_iadd hx hb dX6_turns_91 ?_
        refine x_goV (wn := MW g o (mz r (upd (upd (upd (mZ r) 24 (((((mZ r) 24) + ((mZ r) 1)) + ((mZ r) 25)) - (10 * ((mZ r) 23)))) 26 (((mZ r) 26) + 1)) 25 (((mZ r) 25) + 1)))) (x_rV (As := [.int 2, .int 3, .int (((mZ r) 25) + 1)]) X (c_X6_lays l g o (mz r (upd (upd (mZ r) 24 (((((mZ r) 24) + ((mZ r) 1)) + ((mZ r) 25)) - (10 * ((mZ r) 23)))) 26 (((mZ r) 26) + 1))) 2 3 (by decide) (by decide) (((mZ r) 25) + 1)  _) yf_X6_lays yi_X6_lays wM_X6_29 ⟨Nat.le_of_ble_eq_true rfl, Nat.le_of_ble_eq_true rfl⟩ hP hD (p_all _) 0 rfl rfl hl rfl rfl (Nat.le_of_ble_eq_true rfl) dX6_turns_92 ⟨Nat.zero_le _, Nat.zero_le _⟩) hP hD hS hA (p_all _) (p_back _) (fun H locs hP hD hS => ?_)
        refine lv_iconst (v := 0) hx hb dX6_turns_95 (by decide) ?_
        have E : (MW g o (mz r (upd (upd (upd (mZ r) 24 (((((mZ r) 24) + ((mZ r) 1)) + ((mZ r) 25)) - (10 * ((mZ r) 23)))) 26 (((mZ r) 26) + 1)) 25 (((mZ r) 25) + 1))) : va_W) = MW g o (mz r ((turnM 22 (mZ r)).1)) := by (simp only [turnM, ssM, stM, if_neg c_1, if_pos c_3, if_neg c_4]) <;> rfl
        exact x_iret X hr hlocks (pw E hP) (dw E hD) hS (by (simp only [turnM, ssM, stM, if_neg c_1, if_pos c_3, if_neg c_4]) <;> rfl) dX6_turns_96

set_option maxHeartbeats 4000000 in
set_option maxRecDepth 100000 in
theorem c_X6_oils_3 (l : Launch) (g : wG) (o : Nat → Nat) (r : MS) : CtI l g 1 yX6_oils cX6_oils 2 (some .int) [.ref (o 0), .int 3] (MW g o r) (oilMR 29 (mZ r)) (MW g o (mz r (oilM 29 (mZ r)))) := by
  intro sz
  refine x_enter (Qc := fun A => QI g A (oilMR 29 (mZ r)) (MW g o (mz r (oilM 29 (mZ r))))) (by decide) (Nat.le_of_ble_eq_true rfl) ?_
  intro p e s m args below meth c X hr hlocks A hA hP hD hS ls hl
  obtain ⟨⟨hx, hb, hml, hown, hts⟩, hK, hN⟩ := id X
  have hl : lv_has ls 2 [(0, .ref (o 0)), (1, .int 3)] := hl
  refine lv_aload_n hx hb dX6_oils_0 rfl (lv_at hl 0 rfl) ?_
  refine lv_iload_n hx hb dX6_oils_1 rfl (lv_at hl 1 rfl) ?_
  refine lv_iconst (v := 3) hx hb dX6_oils_2 (by decide) ?_
  refine lv_aload_n hx hb dX6_oils_3 rfl (lv_at hl 0 rfl) ?_
  refine lv_iload_n hx hb dX6_oils_4 rfl (lv_at hl 1 rfl) ?_
  refine lv_iconst (v := 3) hx hb dX6_oils_5 (by decide) ?_
  refine x_goI (wn := MW g o r) (x_rV (As := [.int 3, .int 3]) X (c_X6_of l g o r 3 3 (by decide) (by decide)  _) yf_X6_of yi_X6_of wM_X6_56 ⟨Nat.le_of_ble_eq_true rfl, Nat.le_of_ble_eq_true rfl⟩ hP hD (p_all _) 0 rfl rfl hl rfl rfl (Nat.le_of_ble_eq_true rfl) dX6_oils_6 ⟨Nat.zero_le _, Nat.zero_le _⟩) hP hD hS hA (p_all _) (p_back _) (fun H locs hP hD hS => ?_)
  refine lv_if_le (tgt := 23) hx hb dX6_oils_9 (by decide) (fun (c_1 : ((mZ r) 32) ≤ 0) => ?_) (fun (c_1 : ¬ ((mZ r) 32) ≤ 0) => ?_)
  · refine lv_iconst (v := 0) hx hb dX6_oils_23 (by decide) ?_
    refine x_goV (wn := MW g o (mz r (upd (mZ r) 32 0))) (x_rV (As := [.int 3, .int 3, .int 0]) X (c_X6_lays l g o r 3 3 (by decide) (by decide) 0  _) yf_X6_lays yi_X6_lays wM_X6_29 ⟨Nat.le_of_ble_eq_true rfl, Nat.le_of_ble_eq_true rfl⟩ hP hD (p_all _) 0 rfl rfl hl rfl rfl (Nat.le_of_ble_eq_true rfl) dX6_oils_24 ⟨Nat.zero_le _, Nat.zero_le _⟩) hP hD hS hA (p_all _) (p_back _) (fun H locs hP hD hS => ?_)
    refine lv_aload_n hx hb dX6_oils_27 rfl (lv_at hl 0 rfl) ?_
    refine lv_iload_n hx hb dX6_oils_28 rfl (lv_at hl 1 rfl) ?_
    refine lv_iconst (v := 2) hx hb dX6_oils_29 (by decide) ?_
    refine lv_iconst (v := 0) hx hb dX6_oils_30 (by decide) ?_
    refine x_goV (wn := MW g o (mz r (upd (upd (mZ r) 32 0) 31 0))) (x_rV (As := [.int 3, .int 2, .int 0]) X (c_X6_lays l g o (mz r (upd (mZ r) 32 0)) 3 2 (by decide) (by decide) 0  _) yf_X6_lays yi_X6_lays wM_X6_29 ⟨Nat.le_of_ble_eq_true rfl, Nat.le_of_ble_eq_true rfl⟩ hP hD (p_all _) 0 rfl rfl hl rfl rfl (Nat.le_of_ble_eq_true rfl) dX6_oils_31 ⟨Nat.zero_le _, Nat.zero_le _⟩) hP hD hS hA (p_all _) (p_back _) (fun H locs hP hD hS => ?_)
    refine lv_aload_n hx hb dX6_oils_34 rfl (lv_at hl 0 rfl) ?_
    refine lv_iload_n hx hb dX6_oils_35 rfl (lv_at hl 1 rfl) ?_
    refine lv_iconst (v := 3) hx hb dX6_oils_36 (by decide) ?_
    refine x_goI (wn := MW g o (mz r (upd (upd (mZ r) 32 0) 31 0))) (x_rV (As := [.int 3, .int 3]) X (c_X6_of l g o (mz r (upd (upd (mZ r) 32 0) 31 0)) 3 3 (by decide) (by decide)  _) yf_X6_of yi_X6_of wM_X6_56 ⟨Nat.le_of_ble_eq_true rfl, Nat.le_of_ble_eq_true rfl⟩ hP hD (p_all _) 0 rfl rfl hl rfl rfl (Nat.le_of_ble_eq_true rfl) dX6_oils_37 ⟨Nat.zero_le _, Nat.zero_le _⟩) hP hD hS hA (p_all _) (p_back _) (fun H locs hP hD hS => ?_)
    have E : (MW g o (mz r (upd (upd (mZ r) 32 0) 31 0)) : va_W) = MW g o (mz r (oilM 29 (mZ r))) := by (simp only [oilM, oilMR, if_pos c_1]) <;> rfl
    exact x_iret X hr hlocks (pw E hP) (dw E hD) hS (by (simp only [oilM, oilMR, if_pos c_1]) <;> rfl) dX6_oils_40
  · refine lv_aload_n hx hb dX6_oils_12 rfl (lv_at hl 0 rfl) ?_
    refine lv_iload_n hx hb dX6_oils_13 rfl (lv_at hl 1 rfl) ?_
    refine lv_iconst (v := 3) hx hb dX6_oils_14 (by decide) ?_
    refine x_goI (wn := MW g o r) (x_rV (As := [.int 3, .int 3]) X (c_X6_of l g o r 3 3 (by decide) (by decide)  _) yf_X6_of yi_X6_of wM_X6_56 ⟨Nat.le_of_ble_eq_true rfl, Nat.le_of_ble_eq_true rfl⟩ hP hD (p_all _) 0 rfl rfl hl rfl rfl (Nat.le_of_ble_eq_true rfl) dX6_oils_15 ⟨Nat.zero_le _, Nat.zero_le _⟩) hP hD hS hA (p_all _) (p_back _) (fun H locs hP hD hS => ?_)
    refine lv_iconst (v := 1) hx hb dX6_oils_18 (by decide) ?_
    refine lv_isub hx hb dX6_oils_19 ?_
    refine lv_goto (tgt := 24) hx hb dX6_oils_20 (by decide) ?_
    refine x_goV (wn := MW g o (mz r (upd (mZ r) 32 (((mZ r) 32) - 1)))) (x_rV (As := [.int 3, .int 3, .int (((mZ r) 32) - 1)]) X (c_X6_lays l g o r 3 3 (by decide) (by decide) (((mZ r) 32) - 1)  _) yf_X6_lays yi_X6_lays wM_X6_29 ⟨Nat.le_of_ble_eq_true rfl, Nat.le_of_ble_eq_true rfl⟩ hP hD (p_all _) 0 rfl rfl hl rfl rfl (Nat.le_of_ble_eq_true rfl) dX6_oils_24 ⟨Nat.zero_le _, Nat.zero_le _⟩) hP hD hS hA (p_all _) (p_back _) (fun H locs hP hD hS => ?_)
    refine lv_aload_n hx hb dX6_oils_27 rfl (lv_at hl 0 rfl) ?_
    refine lv_iload_n hx hb dX6_oils_28 rfl (lv_at hl 1 rfl) ?_
    refine lv_iconst (v := 2) hx hb dX6_oils_29 (by decide) ?_
    refine lv_iconst (v := 0) hx hb dX6_oils_30 (by decide) ?_
    refine x_goV (wn := MW g o (mz r (upd (upd (mZ r) 32 (((mZ r) 32) - 1)) 31 0))) (x_rV (As := [.int 3, .int 2, .int 0]) X (c_X6_lays l g o (mz r (upd (mZ r) 32 (((mZ r) 32) - 1))) 3 2 (by decide) (by decide) 0  _) yf_X6_lays yi_X6_lays wM_X6_29 ⟨Nat.le_of_ble_eq_true rfl, Nat.le_of_ble_eq_true rfl⟩ hP hD (p_all _) 0 rfl rfl hl rfl rfl (Nat.le_of_ble_eq_true rfl) dX6_oils_31 ⟨Nat.zero_le _, Nat.zero_le _⟩) hP hD hS hA (p_all _) (p_back _) (fun H locs hP hD hS => ?_)
    refine lv_aload_n hx hb dX6_oils_34 rfl (lv_at hl 0 rfl) ?_
    refine lv_iload_n hx hb dX6_oils_35 rfl (lv_at hl 1 rfl) ?_
    refine lv_iconst (v := 3) hx hb dX6_oils_36 (by decide) ?_
    refine x_goI (wn := MW g o (mz r (upd (upd (mZ r) 32 (((mZ r) 32) - 1)) 31 0))) (x_rV (As := [.int 3, .int 3]) X (c_X6_of l g o (mz r (upd (upd (mZ r) 32 (((mZ r) 32) - 1)) 31 0)) 3 3 (by decide) (by decide)  _) yf_X6_of yi_X6_of wM_X6_56 ⟨Nat.le_of_ble_eq_true rfl, Nat.le_of_ble_eq_true rfl⟩ hP hD (p_all _) 0 rfl rfl hl rfl rfl (Nat.le_of_ble_eq_true rfl) dX6_oils_37 ⟨Nat.zero_le _, Nat.zero_le _⟩) hP hD hS hA (p_all _) (p_back _) (fun H locs hP hD hS => ?_)
    have E : (MW g o (mz r (upd (upd (mZ r) 32 (((mZ r) 32) - 1)) 31 0)) : va_W) = MW g o (mz r (oilM 29 (mZ r))) := by (simp only [oilM, oilMR, if_neg c_1]) <;> rfl
    exact x_iret X hr hlocks (pw E hP) (dw E hD) hS (by (simp only [oilM, oilMR, if_neg c_1]) <;> rfl) dX6_oils_40

set_option maxHeartbeats 4000000 in
set_option maxRecDepth 100000 in
theorem c_X6_hangs_3 (l : Launch) (g : wG) (o : Nat → Nat) (r : MS) : CtI l g 1 yX6_hangs cX6_hangs 2 (some .int) [.ref (o 0), .int 3] (MW g o r) (1 - mZ r 34) (MW g o (mz r (hanM 29 (mZ r)))) := by
  intro sz
  refine x_enter (Qc := fun A => QI g A (1 - mZ r 34) (MW g o (mz r (hanM 29 (mZ r))))) (by decide) (Nat.le_of_ble_eq_true rfl) ?_
  intro p e s m args below meth c X hr hlocks A hA hP hD hS ls hl
  obtain ⟨⟨hx, hb, hml, hown, hts⟩, hK, hN⟩ := id X
  have hl : lv_has ls 2 [(0, .ref (o 0)), (1, .int 3)] := hl
  refine lv_aload_n hx hb dX6_hangs_0 rfl (lv_at hl 0 rfl) ?_
  refine lv_iload_n hx hb dX6_hangs_1 rfl (lv_at hl 1 rfl) ?_
  refine lv_iconst (v := 5) hx hb dX6_hangs_2 (by decide) ?_
  refine lv_iconst (v := 1) hx hb dX6_hangs_3 (by decide) ?_
  refine lv_aload_n hx hb dX6_hangs_4 rfl (lv_at hl 0 rfl) ?_
  refine lv_iload_n hx hb dX6_hangs_5 rfl (lv_at hl 1 rfl) ?_
  refine lv_iconst (v := 5) hx hb dX6_hangs_6 (by decide) ?_
  refine x_goI (wn := MW g o r) (x_rV (As := [.int 3, .int 5]) X (c_X6_of l g o r 3 5 (by decide) (by decide)  _) yf_X6_of yi_X6_of wM_X6_56 ⟨Nat.le_of_ble_eq_true rfl, Nat.le_of_ble_eq_true rfl⟩ hP hD (p_all _) 0 rfl rfl hl rfl rfl (Nat.le_of_ble_eq_true rfl) dX6_hangs_7 ⟨Nat.zero_le _, Nat.zero_le _⟩) hP hD hS hA (p_all _) (p_back _) (fun H locs hP hD hS => ?_)
  refine lv_isub hx hb dX6_hangs_10 ?_
  refine x_goV (wn := MW g o (mz r (upd (mZ r) 34 (1 - ((mZ r) 34))))) (x_rV (As := [.int 3, .int 5, .int (1 - ((mZ r) 34))]) X (c_X6_lays l g o r 3 5 (by decide) (by decide) (1 - ((mZ r) 34))  _) yf_X6_lays yi_X6_lays wM_X6_29 ⟨Nat.le_of_ble_eq_true rfl, Nat.le_of_ble_eq_true rfl⟩ hP hD (p_all _) 0 rfl rfl hl rfl rfl (Nat.le_of_ble_eq_true rfl) dX6_hangs_11 ⟨Nat.zero_le _, Nat.zero_le _⟩) hP hD hS hA (p_all _) (p_back _) (fun H locs hP hD hS => ?_)
  refine lv_aload_n hx hb dX6_hangs_14 rfl (lv_at hl 0 rfl) ?_
  refine lv_iload_n hx hb dX6_hangs_15 rfl (lv_at hl 1 rfl) ?_
  refine lv_iconst (v := 5) hx hb dX6_hangs_16 (by decide) ?_
  refine x_goI (wn := MW g o (mz r (upd (mZ r) 34 (1 - ((mZ r) 34))))) (x_rV (As := [.int 3, .int 5]) X (c_X6_of l g o (mz r (upd (mZ r) 34 (1 - ((mZ r) 34)))) 3 5 (by decide) (by decide)  _) yf_X6_of yi_X6_of wM_X6_56 ⟨Nat.le_of_ble_eq_true rfl, Nat.le_of_ble_eq_true rfl⟩ hP hD (p_all _) 0 rfl rfl hl rfl rfl (Nat.le_of_ble_eq_true rfl) dX6_hangs_17 ⟨Nat.zero_le _, Nat.zero_le _⟩) hP hD hS hA (p_all _) (p_back _) (fun H locs hP hD hS => ?_)
  have E : (MW g o (mz r (upd (mZ r) 34 (1 - ((mZ r) 34)))) : va_W) = MW g o (mz r (hanM 29 (mZ r))) := by rfl
  exact x_iret X hr hlocks (pw E hP) (dw E hD) hS rfl dX6_hangs_20

set_option maxHeartbeats 4000000 in
set_option maxRecDepth 100000 in
theorem c_X6_dials_3 (l : Launch) (g : wG) (o : Nat → Nat) (r : MS) (x : Int32) : CtI l g 1 yX6_dials cX6_dials 4 (some .int) [.ref (o 0), .int 3, .int x] (MW g o r) (distM (mZ r 29) x) (MW g o (mz r (upd (mZ r) 29 x))) := by
  intro sz
  refine x_enter (Qc := fun A => QI g A (distM (mZ r 29) x) (MW g o (mz r (upd (mZ r) 29 x)))) (by decide) (Nat.le_of_ble_eq_true rfl) ?_
  intro p e s m args below meth c X hr hlocks A hA hP hD hS ls hl
  obtain ⟨⟨hx, hb, hml, hown, hts⟩, hK, hN⟩ := id X
  have hl : lv_has ls 4 [(0, .ref (o 0)), (1, .int 3), (2, .int x)] := hl
  refine lv_aload_n hx hb dX6_dials_0 rfl (lv_at hl 0 rfl) ?_
  refine lv_iload_n hx hb dX6_dials_1 rfl (lv_at hl 1 rfl) ?_
  refine lv_iconst (v := 0) hx hb dX6_dials_2 (by decide) ?_
  refine x_goI (wn := MW g o r) (x_rV (As := [.int 3, .int 0]) X (c_X6_of l g o r 3 0 (by decide) (by decide)  _) yf_X6_of yi_X6_of wM_X6_56 ⟨Nat.le_of_ble_eq_true rfl, Nat.le_of_ble_eq_true rfl⟩ hP hD (p_all _) 0 rfl rfl hl rfl rfl (Nat.le_of_ble_eq_true rfl) dX6_dials_3 ⟨Nat.zero_le _, Nat.zero_le _⟩) hP hD hS hA (p_all _) (p_back _) (fun H locs hP hD hS => ?_)
  refine lv_iload_n hx hb dX6_dials_6 rfl (lv_at hl 2 rfl) ?_
  refine x_goI (wn := MW g o r) (x_rS (As := [.int ((mZ r) 29), .int x]) X (c_X6_distance l g ((mZ r) 29) x _) yf_X6_distance ys_X6_distance wM_X6_64 ⟨Nat.le_of_ble_eq_true rfl, Nat.le_of_ble_eq_true rfl⟩ hP hD (p_none _) hl rfl rfl (Nat.le_of_ble_eq_true rfl) dX6_dials_7 ⟨Nat.zero_le _, Nat.zero_le _⟩) hP hD hS hA (p_none _) (p_noneB _) (fun H locs hP hD hS => ?_)
  refine lv_istore_n (lv' := [(3, .int (distM ((mZ r) 29) x)), (0, .ref (o 0)), (1, .int 3), (2, .int x)]) hx hb dX6_dials_10 rfl hl (by decide) rfl (fun ls hl => ?_)
  refine lv_aload_n hx hb dX6_dials_11 rfl (lv_at hl 1 rfl) ?_
  refine lv_iload_n hx hb dX6_dials_12 rfl (lv_at hl 2 rfl) ?_
  refine lv_iconst (v := 0) hx hb dX6_dials_13 (by decide) ?_
  refine lv_iload_n hx hb dX6_dials_14 rfl (lv_at hl 3 rfl) ?_
  refine x_goV (wn := MW g o (mz r (upd (mZ r) 29 x))) (x_rV (As := [.int 3, .int 0, .int x]) X (c_X6_lays l g o r 3 0 (by decide) (by decide) x  _) yf_X6_lays yi_X6_lays wM_X6_29 ⟨Nat.le_of_ble_eq_true rfl, Nat.le_of_ble_eq_true rfl⟩ hP hD (p_all _) 0 rfl rfl hl rfl rfl (Nat.le_of_ble_eq_true rfl) dX6_dials_15 ⟨Nat.zero_le _, Nat.zero_le _⟩) hP hD hS hA (p_all _) (p_back _) (fun H locs hP hD hS => ?_)
  refine lv_iload_n hx hb dX6_dials_18 rfl (lv_at hl 0 rfl) ?_
  exact x_iret X hr hlocks hP hD hS rfl dX6_dials_19

set_option maxHeartbeats 4000000 in
set_option maxRecDepth 100000 in
theorem c_X6_turns_3 (l : Launch) (g : wG) (o : Nat → Nat) (r : MS) : CtI l g 1 yX6_turns cX6_turns 5 (some .int) [.ref (o 0), .int 3] (MW g o r) ((turnM 29 (mZ r)).2) (MW g o (mz r ((turnM 29 (mZ r)).1))) := by
  intro sz
  refine x_enter (Qc := fun A => QI g A ((turnM 29 (mZ r)).2) (MW g o (mz r ((turnM 29 (mZ r)).1)))) (by decide) (Nat.le_of_ble_eq_true rfl) ?_
  intro p e s m args below meth c X hr hlocks A hA hP hD hS ls hl
  obtain ⟨⟨hx, hb, hml, hown, hts⟩, hK, hN⟩ := id X
  have hl : lv_has ls 5 [(0, .ref (o 0)), (1, .int 3)] := hl
  refine lv_aload_n hx hb dX6_turns_0 rfl (lv_at hl 0 rfl) ?_
  refine lv_iload_n hx hb dX6_turns_1 rfl (lv_at hl 1 rfl) ?_
  refine lv_iconst (v := 2) hx hb dX6_turns_2 (by decide) ?_
  refine x_goI (wn := MW g o r) (x_rV (As := [.int 3, .int 2]) X (c_X6_of l g o r 3 2 (by decide) (by decide)  _) yf_X6_of yi_X6_of wM_X6_56 ⟨Nat.le_of_ble_eq_true rfl, Nat.le_of_ble_eq_true rfl⟩ hP hD (p_all _) 0 rfl rfl hl rfl rfl (Nat.le_of_ble_eq_true rfl) dX6_turns_3 ⟨Nat.zero_le _, Nat.zero_le _⟩) hP hD hS hA (p_all _) (p_back _) (fun H locs hP hD hS => ?_)
  refine lv_aload_n hx hb dX6_turns_6 rfl (lv_at hl 0 rfl) ?_
  refine x_get (v := .ref (o 1)) X 0 0 in_X6 hP rfl rfl (by decide) wF_X6_7 rfl rfl dX6_turns_7 ?_
  refine lv_iconst (v := 1) hx hb dX6_turns_10 (by decide) ?_
  refine x_iald (v := ((mZ r) 1)) X 1 1 hP rfl rfl (by decide) (Nat.le_of_ble_eq_true rfl) rfl dX6_turns_11 ?_
  refine lv_iadd hx hb dX6_turns_12 ?_
  refine lv_aload_n hx hb dX6_turns_13 rfl (lv_at hl 0 rfl) ?_
  refine lv_iload_n hx hb dX6_turns_14 rfl (lv_at hl 1 rfl) ?_
  refine lv_iconst (v := 3) hx hb dX6_turns_15 (by decide) ?_
  refine x_goI (wn := MW g o r) (x_rV (As := [.int 3, .int 3]) X (c_X6_of l g o r 3 3 (by decide) (by decide)  _) yf_X6_of yi_X6_of wM_X6_56 ⟨Nat.le_of_ble_eq_true rfl, Nat.le_of_ble_eq_true rfl⟩ hP hD (p_all _) 0 rfl rfl hl rfl rfl (Nat.le_of_ble_eq_true rfl) dX6_turns_16 ⟨Nat.zero_le _, Nat.zero_le _⟩) hP hD hS hA (p_all _) (p_back _) (fun H locs hP hD hS => ?_)
  refine lv_iadd hx hb dX6_turns_19 ?_
  refine lv_istore_n (lv' := [(2, .int ((((mZ r) 31) + ((mZ r) 1)) + ((mZ r) 32))), (0, .ref (o 0)), (1, .int 3)]) hx hb dX6_turns_20 rfl hl (by decide) rfl (fun ls hl => ?_)
  refine lv_bipush (v := 10) hx hb dX6_turns_21 (by decide) ?_
  refine lv_aload_n hx hb dX6_turns_23 rfl (lv_at hl 1 rfl) ?_
  refine lv_iload_n hx hb dX6_turns_24 rfl (lv_at hl 2 rfl) ?_
  refine lv_iconst (v := 1) hx hb dX6_turns_25 (by decide) ?_
  refine x_goI (wn := MW g o r) (x_rV (As := [.int 3, .int 1]) X (c_X6_of l g o r 3 1 (by decide) (by decide)  _) yf_X6_of yi_X6_of wM_X6_56 ⟨Nat.le_of_ble_eq_true rfl, Nat.le_of_ble_eq_true rfl⟩ hP hD (p_all _) 0 rfl rfl hl rfl rfl (Nat.le_of_ble_eq_true rfl) dX6_turns_26 ⟨Nat.zero_le _, Nat.zero_le _⟩) hP hD hS hA (p_all _) (p_back _) (fun H locs hP hD hS => ?_)
  refine lv_imul hx hb dX6_turns_29 ?_
  refine lv_istore_n (lv' := [(3, .int (10 * ((mZ r) 30))), (2, .int ((((mZ r) 31) + ((mZ r) 1)) + ((mZ r) 32))), (0, .ref (o 0)), (1, .int 3)]) hx hb dX6_turns_30 rfl hl (by decide) rfl (fun ls hl => ?_)
  refine lv_iload_n hx hb dX6_turns_31 rfl (lv_at hl 1 rfl) ?_
  refine lv_iload_n hx hb dX6_turns_32 rfl (lv_at hl 0 rfl) ?_
  refine lv_icmp_lt (tgt := 97) hx hb dX6_turns_33 (by decide) (fun (c_1 : ((((mZ r) 31) + ((mZ r) 1)) + ((mZ r) 32)) < (10 * ((mZ r) 30))) => ?_) (fun (c_1 : ¬ ((((mZ r) 31) + ((mZ r) 1)) + ((mZ r) 32)) < (10 * ((mZ r) 30))) => ?_)
  · refine lv_aload_n hx hb dX6_turns_97 rfl (lv_at hl 2 rfl) ?_
    refine lv_iload_n hx hb dX6_turns_98 rfl (lv_at hl 3 rfl) ?_
    refine lv_iconst (v := 2) hx hb dX6_turns_99 (by decide) ?_
    refine lv_iload_n hx hb dX6_turns_100 rfl (lv_at hl 1 rfl) ?_
    refine x_goV (wn := MW g o (mz r (upd (mZ r) 31 ((((mZ r) 31) + ((mZ r) 1)) + ((mZ r) 32))))) (x_rV (As := [.int 3, .int 2, .int ((((mZ r) 31) + ((mZ r) 1)) + ((mZ r) 32))]) X (c_X6_lays l g o r 3 2 (by decide) (by decide) ((((mZ r) 31) + ((mZ r) 1)) + ((mZ r) 32))  _) yf_X6_lays yi_X6_lays wM_X6_29 ⟨Nat.le_of_ble_eq_true rfl, Nat.le_of_ble_eq_true rfl⟩ hP hD (p_all _) 0 rfl rfl hl rfl rfl (Nat.le_of_ble_eq_true rfl) dX6_turns_101 ⟨Nat.zero_le _, Nat.zero_le _⟩) hP hD hS hA (p_all _) (p_back _) (fun H locs hP hD hS => ?_)
    refine lv_aload_n hx hb dX6_turns_104 rfl (lv_at hl 2 rfl) ?_
    refine lv_iload_n hx hb dX6_turns_105 rfl (lv_at hl 3 rfl) ?_
    refine lv_iconst (v := 0) hx hb dX6_turns_106 (by decide) ?_
    refine lv_aload_n hx hb dX6_turns_107 rfl (lv_at hl 2 rfl) ?_
    refine lv_iload_n hx hb dX6_turns_108 rfl (lv_at hl 3 rfl) ?_
    refine lv_iconst (v := 0) hx hb dX6_turns_109 (by decide) ?_
    refine x_goI (wn := MW g o (mz r (upd (mZ r) 31 ((((mZ r) 31) + ((mZ r) 1)) + ((mZ r) 32))))) (x_rV (As := [.int 3, .int 0]) X (c_X6_of l g o (mz r (upd (mZ r) 31 ((((mZ r) 31) + ((mZ r) 1)) + ((mZ r) 32)))) 3 0 (by decide) (by decide)  _) yf_X6_of yi_X6_of wM_X6_56 ⟨Nat.le_of_ble_eq_true rfl, Nat.le_of_ble_eq_true rfl⟩ hP hD (p_all _) 0 rfl rfl hl rfl rfl (Nat.le_of_ble_eq_true rfl) dX6_turns_110 ⟨Nat.zero_le _, Nat.zero_le _⟩) hP hD hS hA (p_all _) (p_back _) (fun H locs hP hD hS => ?_)
    refine lv_iconst (v := 1) hx hb dX6_turns_113 (by decide) ?_
    refine lv_iadd hx hb dX6_turns_114 ?_
    refine lv_sipush (v := 720) hx hb dX6_turns_115 (by decide) ?_
    refine lv_irem hx hb dX6_turns_118 (by decide) ?_
    refine x_goV (wn := MW g o (mz r (upd (upd (mZ r) 31 ((((mZ r) 31) + ((mZ r) 1)) + ((mZ r) 32))) 29 (jrem (((mZ r) 29) + 1) 720)))) (x_rV (As := [.int 3, .int 0, .int (jrem (((mZ r) 29) + 1) 720)]) X (c_X6_lays l g o (mz r (upd (mZ r) 31 ((((mZ r) 31) + ((mZ r) 1)) + ((mZ r) 32)))) 3 0 (by decide) (by decide) (jrem (((mZ r) 29) + 1) 720)  _) yf_X6_lays yi_X6_lays wM_X6_29 ⟨Nat.le_of_ble_eq_true rfl, Nat.le_of_ble_eq_true rfl⟩ hP hD (p_all _) 0 rfl rfl hl rfl rfl (Nat.le_of_ble_eq_true rfl) dX6_turns_119 ⟨Nat.zero_le _, Nat.zero_le _⟩) hP hD hS hA (p_all _) (p_back _) (fun H locs hP hD hS => ?_)
    refine lv_aload_n hx hb dX6_turns_122 rfl (lv_at hl 2 rfl) ?_
    refine lv_iload_n hx hb dX6_turns_123 rfl (lv_at hl 3 rfl) ?_
    refine lv_iconst (v := 5) hx hb dX6_turns_124 (by decide) ?_
    refine x_goI (wn := MW g o (mz r (upd (upd (mZ r) 31 ((((mZ r) 31) + ((mZ r) 1)) + ((mZ r) 32))) 29 (jrem (((mZ r) 29) + 1) 720)))) (x_rV (As := [.int 3, .int 5]) X (c_X6_of l g o (mz r (upd (upd (mZ r) 31 ((((mZ r) 31) + ((mZ r) 1)) + ((mZ r) 32))) 29 (jrem (((mZ r) 29) + 1) 720))) 3 5 (by decide) (by decide)  _) yf_X6_of yi_X6_of wM_X6_56 ⟨Nat.le_of_ble_eq_true rfl, Nat.le_of_ble_eq_true rfl⟩ hP hD (p_all _) 0 rfl rfl hl rfl rfl (Nat.le_of_ble_eq_true rfl) dX6_turns_125 ⟨Nat.zero_le _, Nat.zero_le _⟩) hP hD hS hA (p_all _) (p_back _) (fun H locs hP hD hS => ?_)
    refine lv_iconst (v := 1) hx hb dX6_turns_128 (by decide) ?_
    refine lv_icmp_ne (tgt := 144) hx hb dX6_turns_129 (by decide) (fun (c_2 : ¬ ((mZ r) 34) = 1) => ?_) (fun (c_2 : ((mZ r) 34) = 1) => ?_)
    · refine lv_iconst (v := 0) hx hb dX6_turns_144 (by decide) ?_
      refine lv_istore (lv' := [(4, .int 0), (3, .int (10 * ((mZ r) 30))), (2, .int ((((mZ r) 31) + ((mZ r) 1)) + ((mZ r) 32))), (0, .ref (o 0)), (1, .int 3)]) hx hb dX6_turns_145 hl (by decide) rfl (fun ls hl => ?_)
      refine lv_aload_n hx hb dX6_turns_147 rfl (lv_at hl 3 rfl) ?_
      refine lv_iload_n hx hb dX6_turns_148 rfl (lv_at hl 4 rfl) ?_
      refine lv_bipush (v := 6) hx hb dX6_turns_149 (by decide) ?_
      refine lv_aload_n hx hb dX6_turns_151 rfl (lv_at hl 3 rfl) ?_
      refine lv_iload_n hx hb dX6_turns_152 rfl (lv_at hl 4 rfl) ?_
      refine lv_bipush (v := 6) hx hb dX6_turns_153 (by decide) ?_
      refine x_goI (wn := MW g o (mz r (upd (upd (mZ r) 31 ((((mZ r) 31) + ((mZ r) 1)) + ((mZ r) 32))) 29 (jrem (((mZ r) 29) + 1) 720)))) (x_rV (As := [.int 3, .int 6]) X (c_X6_of l g o (mz r (upd (upd (mZ r) 31 ((((mZ r) 31) + ((mZ r) 1)) + ((mZ r) 32))) 29 (jrem (((mZ r) 29) + 1) 720))) 3 6 (by decide) (by decide)  _) yf_X6_of yi_X6_of wM_X6_56 ⟨Nat.le_of_ble_eq_true rfl, Nat.le_of_ble_eq_true rfl⟩ hP hD (p_all _) 0 rfl rfl hl rfl rfl (Nat.le_of_ble_eq_true rfl) dX6_turns_155 ⟨Nat.zero_le _, Nat.zero_le _⟩) hP hD hS hA (p_all _) (p_back _) (fun H locs hP hD hS => ?_)
      refine lv_iload hx hb dX6_turns_158 (lv_at hl 0 rfl) ?_
      refine lv_iadd hx hb dX6_turns_160 ?_
      refine x_goV (wn := MW g o (mz r (upd (upd (upd (mZ r) 31 ((((mZ r) 31) + ((mZ r) 1)) + ((mZ r) 32))) 29 (jrem (((mZ r) 29) + 1) 720)) 35 (((mZ r) 35) + 0)))) (x_rV (As := [.int 3, .int 6, .int (((mZ r) 35) + 0)]) X (c_X6_lays l g o (mz r (upd (upd (mZ r) 31 ((((mZ r) 31) + ((mZ r) 1)) + ((mZ r) 32))) 29 (jrem (((mZ r) 29) + 1) 720))) 3 6 (by decide) (by decide) (((mZ r) 35) + 0)  _) yf_X6_lays yi_X6_lays wM_X6_29 ⟨Nat.le_of_ble_eq_true rfl, Nat.le_of_ble_eq_true rfl⟩ hP hD (p_all _) 0 rfl rfl hl rfl rfl (Nat.le_of_ble_eq_true rfl) dX6_turns_161 ⟨Nat.zero_le _, Nat.zero_le _⟩) hP hD hS hA (p_all _) (p_back _) (fun H locs hP hD hS => ?_)
      refine lv_iload hx hb dX6_turns_164 (lv_at hl 0 rfl) ?_
      have E : (MW g o (mz r (upd (upd (upd (mZ r) 31 ((((mZ r) 31) + ((mZ r) 1)) + ((mZ r) 32))) 29 (jrem (((mZ r) 29) + 1) 720)) 35 (((mZ r) 35) + 0))) : va_W) = MW g o (mz r ((turnM 29 (mZ r)).1)) := by (simp only [turnM, ssM, stM, if_pos c_1, if_neg c_2]) <;> rfl
      exact x_iret X hr hlocks (pw E hP) (dw E hD) hS (by (simp only [turnM, ssM, stM, if_pos c_1, if_neg c_2]) <;> rfl) dX6_turns_166
    · refine lv_aload_n hx hb dX6_turns_132 rfl (lv_at hl 2 rfl) ?_
      refine lv_iload_n hx hb dX6_turns_133 rfl (lv_at hl 3 rfl) ?_
      refine lv_iconst (v := 0) hx hb dX6_turns_134 (by decide) ?_
      refine x_goI (wn := MW g o (mz r (upd (upd (mZ r) 31 ((((mZ r) 31) + ((mZ r) 1)) + ((mZ r) 32))) 29 (jrem (((mZ r) 29) + 1) 720)))) (x_rV (As := [.int 3, .int 0]) X (c_X6_of l g o (mz r (upd (upd (mZ r) 31 ((((mZ r) 31) + ((mZ r) 1)) + ((mZ r) 32))) 29 (jrem (((mZ r) 29) + 1) 720))) 3 0 (by decide) (by decide)  _) yf_X6_of yi_X6_of wM_X6_56 ⟨Nat.le_of_ble_eq_true rfl, Nat.le_of_ble_eq_true rfl⟩ hP hD (p_all _) 0 rfl rfl hl rfl rfl (Nat.le_of_ble_eq_true rfl) dX6_turns_135 ⟨Nat.zero_le _, Nat.zero_le _⟩) hP hD hS hA (p_all _) (p_back _) (fun H locs hP hD hS => ?_)
      refine x_goI (wn := MW g o (mz r (upd (upd (mZ r) 31 ((((mZ r) 31) + ((mZ r) 1)) + ((mZ r) 32))) 29 (jrem (((mZ r) 29) + 1) 720)))) (x_rS (As := [.int (jrem (((mZ r) 29) + 1) 720)]) X (c_X6_strikesAt l g (jrem (((mZ r) 29) + 1) 720) _) yf_X6_strikesAt ys_X6_strikesAt wM_X6_73 ⟨Nat.le_of_ble_eq_true rfl, Nat.le_of_ble_eq_true rfl⟩ hP hD (p_none _) hl rfl rfl (Nat.le_of_ble_eq_true rfl) dX6_turns_138 ⟨Nat.zero_le _, Nat.zero_le _⟩) hP hD hS hA (p_none _) (p_noneB _) (fun H locs hP hD hS => ?_)
      refine lv_goto (tgt := 145) hx hb dX6_turns_141 (by decide) ?_
      refine lv_istore (lv' := [(4, .int (strM (jrem (((mZ r) 29) + 1) 720))), (3, .int (10 * ((mZ r) 30))), (2, .int ((((mZ r) 31) + ((mZ r) 1)) + ((mZ r) 32))), (0, .ref (o 0)), (1, .int 3)]) hx hb dX6_turns_145 hl (by decide) rfl (fun ls hl => ?_)
      refine lv_aload_n hx hb dX6_turns_147 rfl (lv_at hl 3 rfl) ?_
      refine lv_iload_n hx hb dX6_turns_148 rfl (lv_at hl 4 rfl) ?_
      refine lv_bipush (v := 6) hx hb dX6_turns_149 (by decide) ?_
      refine lv_aload_n hx hb dX6_turns_151 rfl (lv_at hl 3 rfl) ?_
      refine lv_iload_n hx hb dX6_turns_152 rfl (lv_at hl 4 rfl) ?_
      refine lv_bipush (v := 6) hx hb dX6_turns_153 (by decide) ?_
      refine x_goI (wn := MW g o (mz r (upd (upd (mZ r) 31 ((((mZ r) 31) + ((mZ r) 1)) + ((mZ r) 32))) 29 (jrem (((mZ r) 29) + 1) 720)))) (x_rV (As := [.int 3, .int 6]) X (c_X6_of l g o (mz r (upd (upd (mZ r) 31 ((((mZ r) 31) + ((mZ r) 1)) + ((mZ r) 32))) 29 (jrem (((mZ r) 29) + 1) 720))) 3 6 (by decide) (by decide)  _) yf_X6_of yi_X6_of wM_X6_56 ⟨Nat.le_of_ble_eq_true rfl, Nat.le_of_ble_eq_true rfl⟩ hP hD (p_all _) 0 rfl rfl hl rfl rfl (Nat.le_of_ble_eq_true rfl) dX6_turns_155 ⟨Nat.zero_le _, Nat.zero_le _⟩) hP hD hS hA (p_all _) (p_back _) (fun H locs hP hD hS => ?_)
      refine lv_iload hx hb dX6_turns_158 (lv_at hl 0 rfl) ?_
      refine lv_iadd hx hb dX6_turns_160 ?_
      refine x_goV (wn := MW g o (mz r (upd (upd (upd (mZ r) 31 ((((mZ r) 31) + ((mZ r) 1)) + ((mZ r) 32))) 29 (jrem (((mZ r) 29) + 1) 720)) 35 (((mZ r) 35) + (strM (jrem (((mZ r) 29) + 1) 720)))))) (x_rV (As := [.int 3, .int 6, .int (((mZ r) 35) + (strM (jrem (((mZ r) 29) + 1) 720)))]) X (c_X6_lays l g o (mz r (upd (upd (mZ r) 31 ((((mZ r) 31) + ((mZ r) 1)) + ((mZ r) 32))) 29 (jrem (((mZ r) 29) + 1) 720))) 3 6 (by decide) (by decide) (((mZ r) 35) + (strM (jrem (((mZ r) 29) + 1) 720)))  _) yf_X6_lays yi_X6_lays wM_X6_29 ⟨Nat.le_of_ble_eq_true rfl, Nat.le_of_ble_eq_true rfl⟩ hP hD (p_all _) 0 rfl rfl hl rfl rfl (Nat.le_of_ble_eq_true rfl) dX6_turns_161 ⟨Nat.zero_le _, Nat.zero_le _⟩) hP hD hS hA (p_all _) (p_back _) (fun H locs hP hD hS => ?_)
      refine lv_iload hx hb dX6_turns_164 (lv_at hl 0 rfl) ?_
      have E : (MW g o (mz r (upd (upd (upd (mZ r) 31 ((((mZ r) 31) + ((mZ r) 1)) + ((mZ r) 32))) 29 (jrem (((mZ r) 29) + 1) 720)) 35 (((mZ r) 35) + (strM (jrem (((mZ r) 29) + 1) 720))))) : va_W) = MW g o (mz r ((turnM 29 (mZ r)).1)) := by (simp only [turnM, ssM, stM, if_pos c_1, if_pos c_2]) <;> rfl
      exact x_iret X hr hlocks (pw E hP) (dw E hD) hS (by (simp only [turnM, ssM, stM, if_pos c_1, if_pos c_2]) <;> rfl) dX6_turns_166
  · refine lv_aload_n hx hb dX6_turns_36 rfl (lv_at hl 2 rfl) ?_
    refine lv_iload_n hx hb dX6_turns_37 rfl (lv_at hl 3 rfl) ?_
    refine lv_iconst (v := 2) hx hb dX6_turns_38 (by decide) ?_
    refine lv_iload_n hx hb dX6_turns_39 rfl (lv_at hl 1 rfl) ?_
    refine lv_iload_n hx hb dX6_turns_40 rfl (lv_at hl 0 rfl) ?_
    refine lv_isub hx hb dX6_turns_41 ?_
    refine x_goV (wn := MW g o (mz r (upd (mZ r) 31 (((((mZ r) 31) + ((mZ r) 1)) + ((mZ r) 32)) - (10 * ((mZ r) 30)))))) (x_rV (As := [.int 3, .int 2, .int (((((mZ r) 31) + ((mZ r) 1)) + ((mZ r) 32)) - (10 * ((mZ r) 30)))]) X (c_X6_lays l g o r 3 2 (by decide) (by decide) (((((mZ r) 31) + ((mZ r) 1)) + ((mZ r) 32)) - (10 * ((mZ r) 30)))  _) yf_X6_lays yi_X6_lays wM_X6_29 ⟨Nat.le_of_ble_eq_true rfl, Nat.le_of_ble_eq_true rfl⟩ hP hD (p_all _) 0 rfl rfl hl rfl rfl (Nat.le_of_ble_eq_true rfl) dX6_turns_42 ⟨Nat.zero_le _, Nat.zero_le _⟩) hP hD hS hA (p_all _) (p_back _) (fun H locs hP hD hS => ?_)
    refine lv_aload_n hx hb dX6_turns_45 rfl (lv_at hl 2 rfl) ?_
    refine lv_iload_n hx hb dX6_turns_46 rfl (lv_at hl 3 rfl) ?_
    refine lv_iconst (v := 4) hx hb dX6_turns_47 (by decide) ?_
    refine lv_aload_n hx hb dX6_turns_48 rfl (lv_at hl 2 rfl) ?_
    refine lv_iload_n hx hb dX6_turns_49 rfl (lv_at hl 3 rfl) ?_
    refine lv_iconst (v := 4) hx hb dX6_turns_50 (by decide) ?_
    refine x_goI (wn := MW g o (mz r (upd (mZ r) 31 (((((mZ r) 31) + ((mZ r) 1)) + ((mZ r) 32)) - (10 * ((mZ r) 30)))))) (x_rV (As := [.int 3, .int 4]) X (c_X6_of l g o (mz r (upd (mZ r) 31 (((((mZ r) 31) + ((mZ r) 1)) + ((mZ r) 32)) - (10 * ((mZ r) 30))))) 3 4 (by decide) (by decide)  _) yf_X6_of yi_X6_of wM_X6_56 ⟨Nat.le_of_ble_eq_true rfl, Nat.le_of_ble_eq_true rfl⟩ hP hD (p_all _) 0 rfl rfl hl rfl rfl (Nat.le_of_ble_eq_true rfl) dX6_turns_51 ⟨Nat.zero_le _, Nat.zero_le _⟩) hP hD hS hA (p_all _) (p_back _) (fun H locs hP hD hS => ?_)
    refine lv_iconst (v := 1) hx hb dX6_turns_54 (by decide) ?_
    refine lv_iadd hx hb dX6_turns_55 ?_
    refine x_goV (wn := MW g o (mz r (upd (upd (mZ r) 31 (((((mZ r) 31) + ((mZ r) 1)) + ((mZ r) 32)) - (10 * ((mZ r) 30)))) 33 (((mZ r) 33) + 1)))) (x_rV (As := [.int 3, .int 4, .int (((mZ r) 33) + 1)]) X (c_X6_lays l g o (mz r (upd (mZ r) 31 (((((mZ r) 31) + ((mZ r) 1)) + ((mZ r) 32)) - (10 * ((mZ r) 30))))) 3 4 (by decide) (by decide) (((mZ r) 33) + 1)  _) yf_X6_lays yi_X6_lays wM_X6_29 ⟨Nat.le_of_ble_eq_true rfl, Nat.le_of_ble_eq_true rfl⟩ hP hD (p_all _) 0 rfl rfl hl rfl rfl (Nat.le_of_ble_eq_true rfl) dX6_turns_56 ⟨Nat.zero_le _, Nat.zero_le _⟩) hP hD hS hA (p_all _) (p_back _) (fun H locs hP hD hS => ?_)
    refine lv_aload_n hx hb dX6_turns_59 rfl (lv_at hl 2 rfl) ?_
    refine lv_iload_n hx hb dX6_turns_60 rfl (lv_at hl 3 rfl) ?_
    refine lv_iconst (v := 4) hx hb dX6_turns_61 (by decide) ?_
    refine x_goI (wn := MW g o (mz r (upd (upd (mZ r) 31 (((((mZ r) 31) + ((mZ r) 1)) + ((mZ r) 32)) - (10 * ((mZ r) 30)))) 33 (((mZ r) 33) + 1)))) (x_rV (As := [.int 3, .int 4]) X (c_X6_of l g o (mz r (upd (upd (mZ r) 31 (((((mZ r) 31) + ((mZ r) 1)) + ((mZ r) 32)) - (10 * ((mZ r) 30)))) 33 (((mZ r) 33) + 1))) 3 4 (by decide) (by decide)  _) yf_X6_of yi_X6_of wM_X6_56 ⟨Nat.le_of_ble_eq_true rfl, Nat.le_of_ble_eq_true rfl⟩ hP hD (p_all _) 0 rfl rfl hl rfl rfl (Nat.le_of_ble_eq_true rfl) dX6_turns_62 ⟨Nat.zero_le _, Nat.zero_le _⟩) hP hD hS hA (p_all _) (p_back _) (fun H locs hP hD hS => ?_)
    refine lv_iconst (v := 3) hx hb dX6_turns_65 (by decide) ?_
    refine lv_irem hx hb dX6_turns_66 (by decide) ?_
    refine lv_if_ne (tgt := 95) hx hb dX6_turns_67 (by decide) (fun (c_3 : ¬ (jrem (((mZ r) 33) + 1) 3) = 0) => ?_) (fun (c_3 : (jrem (((mZ r) 33) + 1) 3) = 0) => ?_)
    · refine lv_iconst (v := 0) hx hb dX6_turns_95 (by decide) ?_
      have E : (MW g o (mz r (upd (upd (mZ r) 31 (((((mZ r) 31) + ((mZ r) 1)) + ((mZ r) 32)) - (10 * ((mZ r) 30)))) 33 (((mZ r) 33) + 1))) : va_W) = MW g o (mz r ((turnM 29 (mZ r)).1)) := by (simp only [turnM, ssM, stM, if_neg c_1, if_neg c_3]) <;> rfl
      exact x_iret X hr hlocks (pw E hP) (dw E hD) hS (by (simp only [turnM, ssM, stM, if_neg c_1, if_neg c_3]) <;> rfl) dX6_turns_96
    · refine lv_aload_n hx hb dX6_turns_70 rfl (lv_at hl 2 rfl) ?_
      refine lv_iload_n hx hb dX6_turns_71 rfl (lv_at hl 3 rfl) ?_
      refine lv_iconst (v := 3) hx hb dX6_turns_72 (by decide) ?_
      refine x_goI (wn := MW g o (mz r (upd (upd (mZ r) 31 (((((mZ r) 31) + ((mZ r) 1)) + ((mZ r) 32)) - (10 * ((mZ r) 30)))) 33 (((mZ r) 33) + 1)))) (x_rV (As := [.int 3, .int 3]) X (c_X6_of l g o (mz r (upd (upd (mZ r) 31 (((((mZ r) 31) + ((mZ r) 1)) + ((mZ r) 32)) - (10 * ((mZ r) 30)))) 33 (((mZ r) 33) + 1))) 3 3 (by decide) (by decide)  _) yf_X6_of yi_X6_of wM_X6_56 ⟨Nat.le_of_ble_eq_true rfl, Nat.le_of_ble_eq_true rfl⟩ hP hD (p_all _) 0 rfl rfl hl rfl rfl (Nat.le_of_ble_eq_true rfl) dX6_turns_73 ⟨Nat.zero_le _, Nat.zero_le _⟩) hP hD hS hA (p_all _) (p_back _) (fun H locs hP hD hS => ?_)
      refine lv_bipush (v := 9) hx hb dX6_turns_76 (by decide) ?_
      refine lv_icmp_ge (tgt := 95) hx hb dX6_turns_78 (by decide) (fun (c_4 : 9 ≤ ((mZ r) 32)) => ?_) (fun (c_4 : ¬ 9 ≤ ((mZ r) 32)) => ?_)
      · refine lv_iconst (v := 0) hx hb dX6_turns_95 (by decide) ?_
        have E : (MW g o (mz r (upd (upd (mZ r) 31 (((((mZ r) 31) + ((mZ r) 1)) + ((mZ r) 32)) - (10 * ((mZ r) 30)))) 33 (((mZ r) 33) + 1))) : va_W) = MW g o (mz r ((turnM 29 (mZ r)).1)) := by (simp only [turnM, ssM, stM, if_neg c_1, if_pos c_3, if_pos c_4]) <;> rfl
        exact x_iret X hr hlocks (pw E hP) (dw E hD) hS (by (simp only [turnM, ssM, stM, if_neg c_1, if_pos c_3, if_pos c_4]) <;> rfl) dX6_turns_96
      · refine lv_aload_n hx hb dX6_turns_81 rfl (lv_at hl 2 rfl) ?_
        refine lv_iload_n hx hb dX6_turns_82 rfl (lv_at hl 3 rfl) ?_
        refine lv_iconst (v := 3) hx hb dX6_turns_83 (by decide) ?_
        refine lv_aload_n hx hb dX6_turns_84 rfl (lv_at hl 2 rfl) ?_
        refine lv_iload_n hx hb dX6_turns_85 rfl (lv_at hl 3 rfl) ?_
        refine lv_iconst (v := 3) hx hb dX6_turns_86 (by decide) ?_
        refine x_goI (wn := MW g o (mz r (upd (upd (mZ r) 31 (((((mZ r) 31) + ((mZ r) 1)) + ((mZ r) 32)) - (10 * ((mZ r) 30)))) 33 (((mZ r) 33) + 1)))) (x_rV (As := [.int 3, .int 3]) X (c_X6_of l g o (mz r (upd (upd (mZ r) 31 (((((mZ r) 31) + ((mZ r) 1)) + ((mZ r) 32)) - (10 * ((mZ r) 30)))) 33 (((mZ r) 33) + 1))) 3 3 (by decide) (by decide)  _) yf_X6_of yi_X6_of wM_X6_56 ⟨Nat.le_of_ble_eq_true rfl, Nat.le_of_ble_eq_true rfl⟩ hP hD (p_all _) 0 rfl rfl hl rfl rfl (Nat.le_of_ble_eq_true rfl) dX6_turns_87 ⟨Nat.zero_le _, Nat.zero_le _⟩) hP hD hS hA (p_all _) (p_back _) (fun H locs hP hD hS => ?_)
        refine lv_iconst (v := 1) hx hb dX6_turns_90 (by decide) ?_
        refine lv_iadd hx hb dX6_turns_91 ?_
        refine x_goV (wn := MW g o (mz r (upd (upd (upd (mZ r) 31 (((((mZ r) 31) + ((mZ r) 1)) + ((mZ r) 32)) - (10 * ((mZ r) 30)))) 33 (((mZ r) 33) + 1)) 32 (((mZ r) 32) + 1)))) (x_rV (As := [.int 3, .int 3, .int (((mZ r) 32) + 1)]) X (c_X6_lays l g o (mz r (upd (upd (mZ r) 31 (((((mZ r) 31) + ((mZ r) 1)) + ((mZ r) 32)) - (10 * ((mZ r) 30)))) 33 (((mZ r) 33) + 1))) 3 3 (by decide) (by decide) (((mZ r) 32) + 1)  _) yf_X6_lays yi_X6_lays wM_X6_29 ⟨Nat.le_of_ble_eq_true rfl, Nat.le_of_ble_eq_true rfl⟩ hP hD (p_all _) 0 rfl rfl hl rfl rfl (Nat.le_of_ble_eq_true rfl) dX6_turns_92 ⟨Nat.zero_le _, Nat.zero_le _⟩) hP hD hS hA (p_all _) (p_back _) (fun H locs hP hD hS => ?_)
        refine lv_iconst (v := 0) hx hb dX6_turns_95 (by decide) ?_
        have E : (MW g o (mz r (upd (upd (upd (mZ r) 31 (((((mZ r) 31) + ((mZ r) 1)) + ((mZ r) 32)) - (10 * ((mZ r) 30)))) 33 (((mZ r) 33) + 1)) 32 (((mZ r) 32) + 1))) : va_W) = MW g o (mz r ((turnM 29 (mZ r)).1)) := by (simp only [turnM, ssM, stM, if_neg c_1, if_pos c_3, if_neg c_4]) <;> rfl
        exact x_iret X hr hlocks (pw E hP) (dw E hD) hS (by (simp only [turnM, ssM, stM, if_neg c_1, if_pos c_3, if_neg c_4]) <;> rfl) dX6_turns_96

set_option maxHeartbeats 4000000 in
set_option maxRecDepth 100000 in
theorem c_X6_minuteOfDay (l : Launch) (g : wG) (o : Nat → Nat) (r : MS) : CtI l g 0 yX6_minuteOfDay cX6_minuteOfDay 1 (some .int) [.ref (o 0)] (MW g o r) (jrem (mZ r 0) 1440) (MW g o r) := by
  intro sz
  refine x_enter (Qc := fun A => QI g A (jrem (mZ r 0) 1440) (MW g o r)) (by decide) (Nat.le_of_ble_eq_true rfl) ?_
  intro p e s m args below meth c X hr hlocks A hA hP hD hS ls hl
  obtain ⟨⟨hx, hb, hml, hown, hts⟩, hK, hN⟩ := id X
  have hl : lv_has ls 1 [(0, .ref (o 0))] := hl
  refine lv_aload_n hx hb dX6_minuteOfDay_0 rfl (lv_at hl 0 rfl) ?_
  refine x_get (v := .ref (o 1)) X 0 0 in_X6 hP rfl rfl (by decide) wF_X6_7 rfl rfl dX6_minuteOfDay_1 ?_
  refine lv_iconst (v := 0) hx hb dX6_minuteOfDay_4 (by decide) ?_
  refine x_iald (v := ((mZ r) 0)) X 1 0 hP rfl rfl (by decide) (Nat.le_of_ble_eq_true rfl) rfl dX6_minuteOfDay_5 ?_
  refine lv_sipush (v := 1440) hx hb dX6_minuteOfDay_6 (by decide) ?_
  refine lv_irem hx hb dX6_minuteOfDay_9 (by decide) ?_
  exact x_iret X hr hlocks hP hD hS rfl dX6_minuteOfDay_10

def wnp (z : RI) (mn : Int32) : Int32 := if isw mn 1 2000 = 0 then -1002 else if z 0 + mn ≤ 999999 then 0 else -1004
set_option maxHeartbeats 4000000 in
set_option maxRecDepth 100000 in
theorem c_X6_whyNotPass (l : Launch) (g : wG) (o : Nat → Nat) (r : MS) (mn : Int32) : CtI l g 1 yX6_whyNotPass cX6_whyNotPass 2 (some .int) [.ref (o 0), .int mn] (MW g o r) (wnp (mZ r) mn) (MW g o r) := by
  intro sz
  refine x_enter (Qc := fun A => QI g A (wnp (mZ r) mn) (MW g o r)) (by decide) (Nat.le_of_ble_eq_true rfl) ?_
  intro p e s m args below meth c X hr hlocks A hA hP hD hS ls hl
  obtain ⟨⟨hx, hb, hml, hown, hts⟩, hK, hN⟩ := id X
  have hl : lv_has ls 2 [(0, .ref (o 0)), (1, .int mn)] := hl
  refine lv_iload_n hx hb dX6_whyNotPass_0 rfl (lv_at hl 1 rfl) ?_
  refine lv_iconst (v := 1) hx hb dX6_whyNotPass_1 (by decide) ?_
  refine lv_sipush (v := 2000) hx hb dX6_whyNotPass_2 (by decide) ?_
  refine x_goI (wn := MW g o r) (x_rS (As := [.int mn, .int 1, .int 2000]) X (c_X6_in l g mn 1 2000 _) yf_X6_in ys_X6_in wM_X6_33 ⟨Nat.le_of_ble_eq_true rfl, Nat.le_of_ble_eq_true rfl⟩ hP hD (p_none _) hl rfl rfl (Nat.le_of_ble_eq_true rfl) dX6_whyNotPass_5 ⟨Nat.zero_le _, Nat.zero_le _⟩) hP hD hS hA (p_none _) (p_noneB _) (fun H locs hP hD hS => ?_)
  refine lv_if_ne (tgt := 17) hx hb dX6_whyNotPass_8 (by decide) (fun (c_1 : ¬ (isw mn 1 2000) = 0) => ?_) (fun (c_1 : (isw mn 1 2000) = 0) => ?_)
  · refine lv_aload_n hx hb dX6_whyNotPass_17 rfl (lv_at hl 0 rfl) ?_
    refine x_get (v := .ref (o 1)) X 0 0 in_X6 hP rfl rfl (by decide) wF_X6_7 rfl rfl dX6_whyNotPass_18 ?_
    refine lv_iconst (v := 0) hx hb dX6_whyNotPass_21 (by decide) ?_
    refine x_iald (v := ((mZ r) 0)) X 1 0 hP rfl rfl (by decide) (Nat.le_of_ble_eq_true rfl) rfl dX6_whyNotPass_22 ?_
    refine lv_iload_n hx hb dX6_whyNotPass_23 rfl (lv_at hl 1 rfl) ?_
    refine lv_iadd hx hb dX6_whyNotPass_24 ?_
    refine lv_ldc (v := 999999) hx hb hown (hts _ wT_X6_89) dX6_whyNotPass_25 ?_
    refine lv_icmp_le (tgt := 36) hx hb dX6_whyNotPass_27 (by decide) (fun (c_2 : (((mZ r) 0) + mn) ≤ 999999) => ?_) (fun (c_2 : ¬ (((mZ r) 0) + mn) ≤ 999999) => ?_)
    · refine lv_iconst (v := 0) hx hb dX6_whyNotPass_36 (by decide) ?_
      exact x_iret X hr hlocks hP hD hS (by simp only [wnp, if_neg c_1, if_pos c_2]) dX6_whyNotPass_37
    · refine lv_sipush (v := (-1004)) hx hb dX6_whyNotPass_30 (by decide) ?_
      refine lv_goto (tgt := 37) hx hb dX6_whyNotPass_33 (by decide) ?_
      exact x_iret X hr hlocks hP hD hS (by simp only [wnp, if_neg c_1, if_neg c_2]) dX6_whyNotPass_37
  · refine lv_sipush (v := (-1002)) hx hb dX6_whyNotPass_11 (by decide) ?_
    refine lv_goto (tgt := 37) hx hb dX6_whyNotPass_14 (by decide) ?_
    exact x_iret X hr hlocks hP hD hS (by simp only [wnp, if_pos c_1]) dX6_whyNotPass_37

set_option maxHeartbeats 4000000 in
set_option maxRecDepth 100000 in
theorem c_X6_startOf (l : Launch) (g : wG) (o : Nat → Nat) (r : MS) (k : Nat) (hk : k < 6) : CtI l g 0 yX6_startOf cX6_startOf 2 (some .int) [.ref (o 0), .int (nI k)] (MW g o r) (mZ r (36 + 2 * k)) (MW g o r) := by
  intro sz
  refine x_enter (Qc := fun A => QI g A (mZ r (36 + 2 * k)) (MW g o r)) (by decide) (Nat.le_of_ble_eq_true rfl) ?_
  intro p e s m args below meth c X hr hlocks A hA hP hD hS ls hl
  obtain ⟨⟨hx, hb, hml, hown, hts⟩, hK, hN⟩ := id X
  have hl : lv_has ls 2 [(0, .ref (o 0)), (1, .int (nI k))] := hl
  refine lv_aload_n hx hb dX6_startOf_0 rfl (lv_at hl 0 rfl) ?_
  refine x_get (v := .ref (o 1)) X 0 0 in_X6 hP rfl rfl (by decide) wF_X6_7 rfl rfl dX6_startOf_1 ?_
  refine lv_bipush (v := 36) hx hb dX6_startOf_4 (by decide) ?_
  refine lv_iconst (v := 2) hx hb dX6_startOf_6 (by decide) ?_
  refine lv_iload_n hx hb dX6_startOf_7 rfl (lv_at hl 1 rfl) ?_
  refine lv_imul hx hb dX6_startOf_8 ?_
  refine lv_iadd hx hb dX6_startOf_9 ?_
  refine x_iald (v := ((mZ r) (36 + 2 * k))) X 1 (36 + 2 * k) hP rfl (ix_s k) (by omega) (Nat.le_of_ble_eq_true rfl) rfl dX6_startOf_10 ?_
  exact x_iret X hr hlocks hP hD hS rfl dX6_startOf_11

set_option maxHeartbeats 4000000 in
set_option maxRecDepth 100000 in
theorem c_X6_wrongOf (l : Launch) (g : wG) (o : Nat → Nat) (r : MS) (k : Nat) (hk : k < 6) : CtI l g 0 yX6_wrongOf cX6_wrongOf 2 (some .int) [.ref (o 0), .int (nI k)] (MW g o r) (mZ r (36 + 2 * k + 1)) (MW g o r) := by
  intro sz
  refine x_enter (Qc := fun A => QI g A (mZ r (36 + 2 * k + 1)) (MW g o r)) (by decide) (Nat.le_of_ble_eq_true rfl) ?_
  intro p e s m args below meth c X hr hlocks A hA hP hD hS ls hl
  obtain ⟨⟨hx, hb, hml, hown, hts⟩, hK, hN⟩ := id X
  have hl : lv_has ls 2 [(0, .ref (o 0)), (1, .int (nI k))] := hl
  refine lv_aload_n hx hb dX6_wrongOf_0 rfl (lv_at hl 0 rfl) ?_
  refine x_get (v := .ref (o 1)) X 0 0 in_X6 hP rfl rfl (by decide) wF_X6_7 rfl rfl dX6_wrongOf_1 ?_
  refine lv_bipush (v := 36) hx hb dX6_wrongOf_4 (by decide) ?_
  refine lv_iconst (v := 2) hx hb dX6_wrongOf_6 (by decide) ?_
  refine lv_iload_n hx hb dX6_wrongOf_7 rfl (lv_at hl 1 rfl) ?_
  refine lv_imul hx hb dX6_wrongOf_8 ?_
  refine lv_iadd hx hb dX6_wrongOf_9 ?_
  refine lv_iconst (v := 1) hx hb dX6_wrongOf_10 (by decide) ?_
  refine lv_iadd hx hb dX6_wrongOf_11 ?_
  refine x_iald (v := ((mZ r) (36 + 2 * k + 1))) X 1 (36 + 2 * k + 1) hP rfl (ix_w k) (by omega) (Nat.le_of_ble_eq_true rfl) rfl dX6_wrongOf_12 ?_
  exact x_iret X hr hlocks hP hD hS rfl dX6_wrongOf_13

def sinM (z : RI) (k : Nat) (mi : Int32) : Int32 := jrem ((mi - z (36 + 2 * k)) + 1440) 1440
set_option maxHeartbeats 4000000 in
set_option maxRecDepth 100000 in
theorem c_X6_since (l : Launch) (g : wG) (o : Nat → Nat) (r : MS) (k : Nat) (hk : k < 6) (mi : Int32) : CtI l g 1 yX6_since cX6_since 3 (some .int) [.ref (o 0), .int (nI k), .int mi] (MW g o r) (sinM (mZ r) k mi) (MW g o r) := by
  intro sz
  refine x_enter (Qc := fun A => QI g A (sinM (mZ r) k mi) (MW g o r)) (by decide) (Nat.le_of_ble_eq_true rfl) ?_
  intro p e s m args below meth c X hr hlocks A hA hP hD hS ls hl
  obtain ⟨⟨hx, hb, hml, hown, hts⟩, hK, hN⟩ := id X
  have hl : lv_has ls 3 [(0, .ref (o 0)), (1, .int (nI k)), (2, .int mi)] := hl
  refine lv_iload_n hx hb dX6_since_0 rfl (lv_at hl 2 rfl) ?_
  refine lv_aload_n hx hb dX6_since_1 rfl (lv_at hl 0 rfl) ?_
  refine lv_iload_n hx hb dX6_since_2 rfl (lv_at hl 1 rfl) ?_
  refine x_goI (wn := MW g o r) (x_rV (As := [.int (nI k)]) X (c_X6_startOf l g o r k hk  _) yf_X6_startOf yi_X6_startOf wM_X6_96 ⟨Nat.le_of_ble_eq_true rfl, Nat.le_of_ble_eq_true rfl⟩ hP hD (p_all _) 0 rfl rfl hl rfl rfl (Nat.le_of_ble_eq_true rfl) dX6_since_3 ⟨Nat.zero_le _, Nat.zero_le _⟩) hP hD hS hA (p_all _) (p_back _) (fun H locs hP hD hS => ?_)
  refine lv_isub hx hb dX6_since_6 ?_
  refine lv_sipush (v := 1440) hx hb dX6_since_7 (by decide) ?_
  refine lv_iadd hx hb dX6_since_10 ?_
  refine lv_sipush (v := 1440) hx hb dX6_since_11 (by decide) ?_
  refine lv_irem hx hb dX6_since_14 (by decide) ?_
  exact x_iret X hr hlocks hP hD hS rfl dX6_since_15

def kbL (z : RI) (x : Int32) : Nat → Nat → Int32 → Int32
  | 0, _, f => f
  | n + 1, k, f => if z (36 + 2 * k) = x then kbL z x n (k + 1) (nI k) else kbL z x n (k + 1) f
set_option maxHeartbeats 4000000 in
set_option maxRecDepth 100000 in
theorem c_X6_keeperBy (l : Launch) (g : wG) (o : Nat → Nat) (r : MS) (cn : Nat) (hc : cn ≤ 6) (hz : mZ r 7 = nI cn) (x : Int32) : CtI l g 1 yX6_keeperBy cX6_keeperBy 4 (some .int) [.ref (o 0), .int x] (MW g o r) (kbL (mZ r) x cn 0 (-1000)) (MW g o r) := by
  intro sz
  refine x_enter (Qc := fun A => QI g A (kbL (mZ r) x cn 0 (-1000)) (MW g o r)) (by decide) (Nat.le_of_ble_eq_true rfl) ?_
  intro p e s m args below meth c X hr hlocks A hA hP hD hS ls hl
  obtain ⟨⟨hx, hb, hml, hown, hts⟩, hK, hN⟩ := id X
  have hl : lv_has ls 4 [(0, .ref (o 0)), (1, .int x)] := hl
  refine lv_sipush (v := (-1000)) hx hb dX6_keeperBy_0 (by decide) ?_
  refine lv_istore_n (lv' := [(2, .int (-1000)), (0, .ref (o 0)), (1, .int x)]) hx hb dX6_keeperBy_3 rfl hl (by decide) rfl (fun ls hl => ?_)
  refine lv_iconst (v := 0) hx hb dX6_keeperBy_4 (by decide) ?_
  refine lv_istore_n (lv' := [(3, .int 0), (2, .int (-1000)), (0, .ref (o 0)), (1, .int x)]) hx hb dX6_keeperBy_5 rfl hl (by decide) rfl (fun ls hl => ?_)
  suffices LP6 : ∀ (n : Nat) (k : Nat) (f : Int32), k + n = cn → kbL (mZ r) x n k f = kbL (mZ r) x cn 0 (-1000) → ∀ (ls : Array Slot) (H : Heap) (locs : List Loc), va_P g.1 vwCl (MW g o r) H → va_D A (MW g o r) → va_S A s.heap H locs → lv_has ls 4 [(3, .int (nI k)), (2, .int f), (0, .ref (o 0)), (1, .int x)] → W p l e (rmD 1) s m args below meth c H locs 0 0 (MQ below (QI g A (kbL (mZ r) x cn 0 (-1000)) (MW g o r)) args s 0 0 A) (F0 m 6 ls []) from LP6 cn 0 (-1000) (Nat.zero_add cn) rfl ls _ _ hP hD hS (lv_sub hl [0, 1, 2, 3] rfl)
  intro n
  induction n with
  | zero =>
    intro k f hk ht ls H locs hP hD hS hl
    refine lv_iload_n hx hb dX6_keeperBy_6 rfl (lv_at hl 0 rfl) ?_
    refine lv_aload_n hx hb dX6_keeperBy_7 rfl (lv_at hl 2 rfl) ?_
    refine x_get (v := .ref (o 1)) X 0 0 in_X6 hP rfl rfl (by decide) wF_X6_7 rfl rfl dX6_keeperBy_8 ?_
    refine lv_bipush (v := 7) hx hb dX6_keeperBy_11 (by decide) ?_
    refine x_iald (v := ((mZ r) 7)) X 1 7 hP rfl rfl (by decide) (Nat.le_of_ble_eq_true rfl) rfl dX6_keeperBy_13 ?_
    refine W.eq (g2 := F0 m 14 ls [.int (nI cn), .int (nI k)]) (by rw [hz]) ?_
    refine lv_icmp_ge (tgt := 38) hx hb dX6_keeperBy_14 (by decide) (fun c_1 => ?_) (fun q9 => absurd (show (nI cn) ≤ (nI k) from (nI_le (by omega) (by omega))) (show ¬ ((nI cn) ≤ (nI k)) from q9))
    refine lv_iload_n hx hb dX6_keeperBy_38 rfl (lv_at hl 1 rfl) ?_
    exact x_iret X hr hlocks hP hD hS ht dX6_keeperBy_39
  | succ n ih =>
    intro k f hk ht ls H locs hP hD hS hl
    refine lv_iload_n hx hb dX6_keeperBy_6 rfl (lv_at hl 0 rfl) ?_
    refine lv_aload_n hx hb dX6_keeperBy_7 rfl (lv_at hl 2 rfl) ?_
    refine x_get (v := .ref (o 1)) X 0 0 in_X6 hP rfl rfl (by decide) wF_X6_7 rfl rfl dX6_keeperBy_8 ?_
    refine lv_bipush (v := 7) hx hb dX6_keeperBy_11 (by decide) ?_
    refine x_iald (v := ((mZ r) 7)) X 1 7 hP rfl rfl (by decide) (Nat.le_of_ble_eq_true rfl) rfl dX6_keeperBy_13 ?_
    refine W.eq (g2 := F0 m 14 ls [.int (nI cn), .int (nI k)]) (by rw [hz]) ?_
    refine lv_icmp_ge (tgt := 38) hx hb dX6_keeperBy_14 (by decide) (fun q9 => absurd q9 (show ¬ (nI cn) ≤ (nI k) from (nI_ge (by omega) (by omega)))) (fun c_2 => ?_)
    refine lv_aload_n hx hb dX6_keeperBy_17 rfl (lv_at hl 2 rfl) ?_
    refine lv_iload_n hx hb dX6_keeperBy_18 rfl (lv_at hl 0 rfl) ?_
    refine x_goI (wn := MW g o r) (x_rV (As := [.int (nI k)]) X (c_X6_startOf l g o r k (by omega)  _) yf_X6_startOf yi_X6_startOf wM_X6_96 ⟨Nat.le_of_ble_eq_true rfl, Nat.le_of_ble_eq_true rfl⟩ hP hD (p_all _) 0 rfl rfl hl rfl rfl (Nat.le_of_ble_eq_true rfl) dX6_keeperBy_19 ⟨Nat.zero_le _, Nat.zero_le _⟩) hP hD hS hA (p_all _) (p_back _) (fun H locs hP hD hS => ?_)
    refine lv_iload_n hx hb dX6_keeperBy_22 rfl (lv_at hl 3 rfl) ?_
    refine lv_icmp_ne (tgt := 30) hx hb dX6_keeperBy_23 (by decide) (fun (c_3 : ¬ ((mZ r) (36 + 2 * k)) = x) => ?_) (fun (c_3 : ((mZ r) (36 + 2 * k)) = x) => ?_)
    · refine lv_iload_n hx hb dX6_keeperBy_30 rfl (lv_at hl 1 rfl) ?_
      refine lv_istore_n (lv' := [(2, .int f), (3, .int (nI k)), (0, .ref (o 0)), (1, .int x)]) hx hb dX6_keeperBy_31 rfl hl (by decide) rfl (fun ls hl => ?_)
      refine lv_iinc (v := (nI (k + 1))) (lv' := [(3, .int (nI (k + 1))), (2, .int f), (0, .ref (o 0)), (1, .int x)]) hx hb dX6_keeperBy_32 hl (k := 1) rfl (nI_1 _) (by decide) rfl (fun ls hl => ?_)
      refine lv_goto (tgt := 6) hx hb dX6_keeperBy_35 (by decide) ?_
      exact ih (k + 1) f (by omega) (by rw [← ht]; simp only [kbL, if_neg c_3]) ls _ _ hP hD hS (lv_sub hl [0, 1, 2, 3] rfl)
    · refine lv_iload_n hx hb dX6_keeperBy_26 rfl (lv_at hl 0 rfl) ?_
      refine lv_goto (tgt := 31) hx hb dX6_keeperBy_27 (by decide) ?_
      refine lv_istore_n (lv' := [(2, .int (nI k)), (3, .int (nI k)), (0, .ref (o 0)), (1, .int x)]) hx hb dX6_keeperBy_31 rfl hl (by decide) rfl (fun ls hl => ?_)
      refine lv_iinc (v := (nI (k + 1))) (lv' := [(3, .int (nI (k + 1))), (2, .int (nI k)), (0, .ref (o 0)), (1, .int x)]) hx hb dX6_keeperBy_32 hl (k := 1) rfl (nI_1 _) (by decide) rfl (fun ls hl => ?_)
      refine lv_goto (tgt := 6) hx hb dX6_keeperBy_35 (by decide) ?_
      exact ih (k + 1) (nI k) (by omega) (by rw [← ht]; simp only [kbL, if_pos c_3]) ls _ _ hP hD hS (lv_sub hl [0, 1, 2, 3] rfl)

def owL (z : RI) (mi : Int32) : Nat → Nat → Nat → Nat
  | 0, _, b => b
  | n + 1, k, b => if sinM z b mi ≤ sinM z k mi then owL z mi n (k + 1) b else owL z mi n (k + 1) k
def owN (z : RI) (mi : Int32) (cn : Nat) : Nat := owL z mi (cn - 1) 1 0
theorem owL_lt (z : RI) (mi : Int32) (cn n : Nat) : ∀ k b, k + n = cn → b < cn → owL z mi n k b < cn := by
  induction n with
  | zero => intro k b _ h; exact h
  | succ n ih =>
    intro k b hk hb
    by_cases h : sinM z b mi ≤ sinM z k mi
    · simp only [owL, if_pos h]; exact ih _ _ (by omega) hb
    · simp only [owL, if_neg h]; exact ih _ _ (by omega) (by omega)
theorem owN_lt (z : RI) (mi : Int32) {cn : Nat} (h : 1 ≤ cn) : owN z mi cn < cn := owL_lt z mi cn (cn - 1) 1 0 (by omega) (by omega)
set_option maxHeartbeats 4000000 in
set_option maxRecDepth 100000 in
theorem c_X6_onWatch (l : Launch) (g : wG) (o : Nat → Nat) (r : MS) (cn : Nat) (hc : cn ≤ 6) (hz : mZ r 7 = nI cn) (h1 : 1 ≤ cn) (mi : Int32) : CtI l g 2 yX6_onWatch cX6_onWatch 4 (some .int) [.ref (o 0), .int mi] (MW g o r) (nI (owN (mZ r) mi cn)) (MW g o r) := by
  intro sz
  refine x_enter (Qc := fun A => QI g A (nI (owN (mZ r) mi cn)) (MW g o r)) (by decide) (Nat.le_of_ble_eq_true rfl) ?_
  intro p e s m args below meth c X hr hlocks A hA hP hD hS ls hl
  obtain ⟨⟨hx, hb, hml, hown, hts⟩, hK, hN⟩ := id X
  have hl : lv_has ls 4 [(0, .ref (o 0)), (1, .int mi)] := hl
  refine lv_sipush (v := (-1000)) hx hb dX6_onWatch_0 (by decide) ?_
  refine lv_istore_n (lv' := [(2, .int (-1000)), (0, .ref (o 0)), (1, .int mi)]) hx hb dX6_onWatch_3 rfl hl (by decide) rfl (fun ls hl => ?_)
  refine lv_iconst (v := 0) hx hb dX6_onWatch_4 (by decide) ?_
  refine lv_istore_n (lv' := [(3, .int 0), (2, .int (-1000)), (0, .ref (o 0)), (1, .int mi)]) hx hb dX6_onWatch_5 rfl hl (by decide) rfl (fun ls hl => ?_)
  refine lv_iload_n hx hb dX6_onWatch_6 rfl (lv_at hl 0 rfl) ?_
  refine lv_aload_n hx hb dX6_onWatch_7 rfl (lv_at hl 2 rfl) ?_
  refine x_get (v := .ref (o 1)) X 0 0 in_X6 hP rfl rfl (by decide) wF_X6_7 rfl rfl dX6_onWatch_8 ?_
  refine lv_bipush (v := 7) hx hb dX6_onWatch_11 (by decide) ?_
  refine x_iald (v := ((mZ r) 7)) X 1 7 hP rfl rfl (by decide) (Nat.le_of_ble_eq_true rfl) rfl dX6_onWatch_13 ?_
  refine W.eq (g2 := F0 m 14 ls [.int (nI cn), .int 0]) (by rw [hz]) ?_
  refine lv_icmp_ge (tgt := 51) hx hb dX6_onWatch_14 (by decide) (fun q9 => absurd q9 (show ¬ (nI cn) ≤ (0 : Int32) from (nI_ge (a := 0) h1 (by omega)))) (fun c_1 => ?_)
  refine lv_iload_n hx hb dX6_onWatch_17 rfl (lv_at hl 1 rfl) ?_
  refine lv_sipush (v := (-1000)) hx hb dX6_onWatch_18 (by decide) ?_
  refine lv_icmp_eq (tgt := 39) hx hb dX6_onWatch_21 (by decide) (fun c_2 => ?_) (fun q9 => absurd (show (-1000 : Int32) = (-1000) from (by decide)) (show ¬ ((-1000 : Int32) = (-1000)) from q9))
  refine lv_iload_n hx hb dX6_onWatch_39 rfl (lv_at hl 0 rfl) ?_
  refine lv_goto (tgt := 44) hx hb dX6_onWatch_40 (by decide) ?_
  refine lv_istore_n (lv' := [(2, .int 0), (3, .int 0), (0, .ref (o 0)), (1, .int mi)]) hx hb dX6_onWatch_44 rfl hl (by decide) rfl (fun ls hl => ?_)
  refine lv_iinc (v := 1) (lv' := [(3, .int 1), (2, .int 0), (0, .ref (o 0)), (1, .int mi)]) hx hb dX6_onWatch_45 hl (k := 1) rfl rfl (by decide) rfl (fun ls hl => ?_)
  refine lv_goto (tgt := 6) hx hb dX6_onWatch_48 (by decide) ?_
  suffices LP6 : ∀ (n : Nat) (k : Nat) (b : Nat), k + n = cn → b < cn → owL (mZ r) mi n k b = owN (mZ r) mi cn → ∀ (ls : Array Slot) (H : Heap) (locs : List Loc), va_P g.1 vwCl (MW g o r) H → va_D A (MW g o r) → va_S A s.heap H locs → lv_has ls 4 [(3, .int (nI k)), (2, .int (nI b)), (0, .ref (o 0)), (1, .int mi)] → W p l e (rmD 2) s m args below meth c H locs 0 0 (MQ below (QI g A (nI (owN (mZ r) mi cn)) (MW g o r)) args s 0 0 A) (F0 m 6 ls []) from LP6 (cn - 1) 1 0 (by omega) (by omega) rfl ls _ _ hP hD hS (lv_sub hl [0, 1, 2, 3] rfl)
  intro n
  induction n with
  | zero =>
    intro k b hk hb1 ht ls H locs hP hD hS hl
    refine lv_iload_n hx hb dX6_onWatch_6 rfl (lv_at hl 0 rfl) ?_
    refine lv_aload_n hx hb dX6_onWatch_7 rfl (lv_at hl 2 rfl) ?_
    refine x_get (v := .ref (o 1)) X 0 0 in_X6 hP rfl rfl (by decide) wF_X6_7 rfl rfl dX6_onWatch_8 ?_
    refine lv_bipush (v := 7) hx hb dX6_onWatch_11 (by decide) ?_
    refine x_iald (v := ((mZ r) 7)) X 1 7 hP rfl rfl (by decide) (Nat.le_of_ble_eq_true rfl) rfl dX6_onWatch_13 ?_
    refine W.eq (g2 := F0 m 14 ls [.int (nI cn), .int (nI k)]) (by rw [hz]) ?_
    refine lv_icmp_ge (tgt := 51) hx hb dX6_onWatch_14 (by decide) (fun c_3 => ?_) (fun q9 => absurd (show (nI cn) ≤ (nI k) from (nI_le (by omega) (by omega))) (show ¬ ((nI cn) ≤ (nI k)) from q9))
    refine lv_iload_n hx hb dX6_onWatch_51 rfl (lv_at hl 1 rfl) ?_
    exact x_iret X hr hlocks hP hD hS (congrArg nI ht) dX6_onWatch_52
  | succ n ih =>
    intro k b hk hb1 ht ls H locs hP hD hS hl
    refine lv_iload_n hx hb dX6_onWatch_6 rfl (lv_at hl 0 rfl) ?_
    refine lv_aload_n hx hb dX6_onWatch_7 rfl (lv_at hl 2 rfl) ?_
    refine x_get (v := .ref (o 1)) X 0 0 in_X6 hP rfl rfl (by decide) wF_X6_7 rfl rfl dX6_onWatch_8 ?_
    refine lv_bipush (v := 7) hx hb dX6_onWatch_11 (by decide) ?_
    refine x_iald (v := ((mZ r) 7)) X 1 7 hP rfl rfl (by decide) (Nat.le_of_ble_eq_true rfl) rfl dX6_onWatch_13 ?_
    refine W.eq (g2 := F0 m 14 ls [.int (nI cn), .int (nI k)]) (by rw [hz]) ?_
    refine lv_icmp_ge (tgt := 51) hx hb dX6_onWatch_14 (by decide) (fun q9 => absurd q9 (show ¬ (nI cn) ≤ (nI k) from (nI_ge (by omega) (by omega)))) (fun c_4 => ?_)
    refine lv_iload_n hx hb dX6_onWatch_17 rfl (lv_at hl 1 rfl) ?_
    refine lv_sipush (v := (-1000)) hx hb dX6_onWatch_18 (by decide) ?_
    refine lv_icmp_eq (tgt := 39) hx hb dX6_onWatch_21 (by decide) (fun q9 => absurd q9 (show ¬ (nI b) = (-1000) from (ne1000 (by omega)))) (fun c_5 => ?_)
    refine lv_aload_n hx hb dX6_onWatch_24 rfl (lv_at hl 2 rfl) ?_
    refine lv_iload_n hx hb dX6_onWatch_25 rfl (lv_at hl 0 rfl) ?_
    refine lv_iload_n hx hb dX6_onWatch_26 rfl (lv_at hl 3 rfl) ?_
    refine x_goI (wn := MW g o r) (x_rV (As := [.int (nI k), .int mi]) X (c_X6_since l g o r k (by omega) mi  _) yf_X6_since yi_X6_since wM_X6_99 ⟨Nat.le_of_ble_eq_true rfl, Nat.le_of_ble_eq_true rfl⟩ hP hD (p_all _) 0 rfl rfl hl rfl rfl (Nat.le_of_ble_eq_true rfl) dX6_onWatch_27 ⟨Nat.zero_le _, Nat.zero_le _⟩) hP hD hS hA (p_all _) (p_back _) (fun H locs hP hD hS => ?_)
    refine lv_aload_n hx hb dX6_onWatch_30 rfl (lv_at hl 2 rfl) ?_
    refine lv_iload_n hx hb dX6_onWatch_31 rfl (lv_at hl 1 rfl) ?_
    refine lv_iload_n hx hb dX6_onWatch_32 rfl (lv_at hl 3 rfl) ?_
    refine x_goI (wn := MW g o r) (x_rV (As := [.int (nI b), .int mi]) X (c_X6_since l g o r b (by omega) mi  _) yf_X6_since yi_X6_since wM_X6_99 ⟨Nat.le_of_ble_eq_true rfl, Nat.le_of_ble_eq_true rfl⟩ hP hD (p_all _) 0 rfl rfl hl rfl rfl (Nat.le_of_ble_eq_true rfl) dX6_onWatch_33 ⟨Nat.zero_le _, Nat.zero_le _⟩) hP hD hS hA (p_all _) (p_back _) (fun H locs hP hD hS => ?_)
    refine lv_icmp_ge (tgt := 43) hx hb dX6_onWatch_36 (by decide) (fun (c_6 : (sinM (mZ r) b mi) ≤ (sinM (mZ r) k mi)) => ?_) (fun (c_6 : ¬ (sinM (mZ r) b mi) ≤ (sinM (mZ r) k mi)) => ?_)
    · refine lv_iload_n hx hb dX6_onWatch_43 rfl (lv_at hl 1 rfl) ?_
      refine lv_istore_n (lv' := [(2, .int (nI b)), (3, .int (nI k)), (0, .ref (o 0)), (1, .int mi)]) hx hb dX6_onWatch_44 rfl hl (by decide) rfl (fun ls hl => ?_)
      refine lv_iinc (v := (nI (k + 1))) (lv' := [(3, .int (nI (k + 1))), (2, .int (nI b)), (0, .ref (o 0)), (1, .int mi)]) hx hb dX6_onWatch_45 hl (k := 1) rfl (nI_1 _) (by decide) rfl (fun ls hl => ?_)
      refine lv_goto (tgt := 6) hx hb dX6_onWatch_48 (by decide) ?_
      exact ih (k + 1) b (by omega) (by omega) (by rw [← ht]; simp only [owL, if_pos c_6]) ls _ _ hP hD hS (lv_sub hl [0, 1, 2, 3] rfl)
    · refine lv_iload_n hx hb dX6_onWatch_39 rfl (lv_at hl 0 rfl) ?_
      refine lv_goto (tgt := 44) hx hb dX6_onWatch_40 (by decide) ?_
      refine lv_istore_n (lv' := [(2, .int (nI k)), (3, .int (nI k)), (0, .ref (o 0)), (1, .int mi)]) hx hb dX6_onWatch_44 rfl hl (by decide) rfl (fun ls hl => ?_)
      refine lv_iinc (v := (nI (k + 1))) (lv' := [(3, .int (nI (k + 1))), (2, .int (nI k)), (0, .ref (o 0)), (1, .int mi)]) hx hb dX6_onWatch_45 hl (k := 1) rfl (nI_1 _) (by decide) rfl (fun ls hl => ?_)
      refine lv_goto (tgt := 6) hx hb dX6_onWatch_48 (by decide) ?_
      exact ih (k + 1) k (by omega) (by omega) (by rw [← ht]; simp only [owL, if_neg c_6]) ls _ _ hP hD hS (lv_sub hl [0, 1, 2, 3] rfl)

set_option maxHeartbeats 4000000 in
set_option maxRecDepth 100000 in
theorem c_X6_onWatch0 (l : Launch) (g : wG) (o : Nat → Nat) (r : MS) (hz : mZ r 7 = nI 0) (mi : Int32) : CtI l g 2 yX6_onWatch cX6_onWatch 4 (some .int) [.ref (o 0), .int mi] (MW g o r) (-1000) (MW g o r) := by
  intro sz
  refine x_enter (Qc := fun A => QI g A (-1000) (MW g o r)) (by decide) (Nat.le_of_ble_eq_true rfl) ?_
  intro p e s m args below meth c X hr hlocks A hA hP hD hS ls hl
  obtain ⟨⟨hx, hb, hml, hown, hts⟩, hK, hN⟩ := id X
  have hl : lv_has ls 4 [(0, .ref (o 0)), (1, .int mi)] := hl
  refine lv_sipush (v := (-1000)) hx hb dX6_onWatch_0 (by decide) ?_
  refine lv_istore_n (lv' := [(2, .int (-1000)), (0, .ref (o 0)), (1, .int mi)]) hx hb dX6_onWatch_3 rfl hl (by decide) rfl (fun ls hl => ?_)
  refine lv_iconst (v := 0) hx hb dX6_onWatch_4 (by decide) ?_
  refine lv_istore_n (lv' := [(3, .int 0), (2, .int (-1000)), (0, .ref (o 0)), (1, .int mi)]) hx hb dX6_onWatch_5 rfl hl (by decide) rfl (fun ls hl => ?_)
  refine lv_iload_n hx hb dX6_onWatch_6 rfl (lv_at hl 0 rfl) ?_
  refine lv_aload_n hx hb dX6_onWatch_7 rfl (lv_at hl 2 rfl) ?_
  refine x_get (v := .ref (o 1)) X 0 0 in_X6 hP rfl rfl (by decide) wF_X6_7 rfl rfl dX6_onWatch_8 ?_
  refine lv_bipush (v := 7) hx hb dX6_onWatch_11 (by decide) ?_
  refine x_iald (v := ((mZ r) 7)) X 1 7 hP rfl rfl (by decide) (Nat.le_of_ble_eq_true rfl) rfl dX6_onWatch_13 ?_
  refine lv_icmp_ge (tgt := 51) hx hb dX6_onWatch_14 (by decide) (fun c_1 => ?_) (fun q9 => absurd (show ((mZ r) 7) ≤ (0 : Int32) from (by rw [hz]; decide)) (show ¬ (((mZ r) 7) ≤ (0 : Int32)) from q9))
  refine lv_iload_n hx hb dX6_onWatch_51 rfl (lv_at hl 1 rfl) ?_
  exact x_iret X hr hlocks hP hD hS rfl dX6_onWatch_52

def wnh (z : RI) (cn : Nat) (x w : Int32) : Int32 := if isw x 0 1439 = 0 then -1002 else if isw w (-30) 30 = 0 then -1002 else if kbL z x cn 0 (-1000) = -1000 then (if nI cn = 6 then -1004 else 0) else -1003
set_option maxHeartbeats 4000000 in
set_option maxRecDepth 100000 in
theorem c_X6_whyNotHire (l : Launch) (g : wG) (o : Nat → Nat) (r : MS) (cn : Nat) (hc : cn ≤ 6) (hz : mZ r 7 = nI cn) (x w : Int32) : CtI l g 2 yX6_whyNotHire cX6_whyNotHire 3 (some .int) [.ref (o 0), .int x, .int w] (MW g o r) (wnh (mZ r) cn x w) (MW g o r) := by
  intro sz
  refine x_enter (Qc := fun A => QI g A (wnh (mZ r) cn x w) (MW g o r)) (by decide) (Nat.le_of_ble_eq_true rfl) ?_
  intro p e s m args below meth c X hr hlocks A hA hP hD hS ls hl
  obtain ⟨⟨hx, hb, hml, hown, hts⟩, hK, hN⟩ := id X
  have hl : lv_has ls 3 [(0, .ref (o 0)), (1, .int x), (2, .int w)] := hl
  refine lv_iload_n hx hb dX6_whyNotHire_0 rfl (lv_at hl 1 rfl) ?_
  refine lv_iconst (v := 0) hx hb dX6_whyNotHire_1 (by decide) ?_
  refine lv_sipush (v := 1439) hx hb dX6_whyNotHire_2 (by decide) ?_
  refine x_goI (wn := MW g o r) (x_rS (As := [.int x, .int 0, .int 1439]) X (c_X6_in l g x 0 1439 _) yf_X6_in ys_X6_in wM_X6_33 ⟨Nat.le_of_ble_eq_true rfl, Nat.le_of_ble_eq_true rfl⟩ hP hD (p_none _) hl rfl rfl (Nat.le_of_ble_eq_true rfl) dX6_whyNotHire_5 ⟨Nat.zero_le _, Nat.zero_le _⟩) hP hD hS hA (p_none _) (p_noneB _) (fun H locs hP hD hS => ?_)
  refine lv_if_eq (tgt := 22) hx hb dX6_whyNotHire_8 (by decide) (fun (c_1 : (isw x 0 1439) = 0) => ?_) (fun (c_1 : ¬ (isw x 0 1439) = 0) => ?_)
  · refine lv_sipush (v := (-1002)) hx hb dX6_whyNotHire_22 (by decide) ?_
    exact x_iret X hr hlocks hP hD hS (by simp only [wnh, if_pos c_1]) dX6_whyNotHire_25
  · refine lv_iload_n hx hb dX6_whyNotHire_11 rfl (lv_at hl 2 rfl) ?_
    refine lv_bipush (v := (-30)) hx hb dX6_whyNotHire_12 (by decide) ?_
    refine lv_bipush (v := 30) hx hb dX6_whyNotHire_14 (by decide) ?_
    refine x_goI (wn := MW g o r) (x_rS (As := [.int w, .int (-30), .int 30]) X (c_X6_in l g w (-30) 30 _) yf_X6_in ys_X6_in wM_X6_33 ⟨Nat.le_of_ble_eq_true rfl, Nat.le_of_ble_eq_true rfl⟩ hP hD (p_none _) hl rfl rfl (Nat.le_of_ble_eq_true rfl) dX6_whyNotHire_16 ⟨Nat.zero_le _, Nat.zero_le _⟩) hP hD hS hA (p_none _) (p_noneB _) (fun H locs hP hD hS => ?_)
    refine lv_if_ne (tgt := 26) hx hb dX6_whyNotHire_19 (by decide) (fun (c_2 : ¬ (isw w (-30) 30) = 0) => ?_) (fun (c_2 : (isw w (-30) 30) = 0) => ?_)
    · refine lv_aload_n hx hb dX6_whyNotHire_26 rfl (lv_at hl 0 rfl) ?_
      refine lv_iload_n hx hb dX6_whyNotHire_27 rfl (lv_at hl 1 rfl) ?_
      refine x_goI (wn := MW g o r) (x_rV (As := [.int x]) X (c_X6_keeperBy l g o r cn hc hz x  _) yf_X6_keeperBy yi_X6_keeperBy wM_X6_102 ⟨Nat.le_of_ble_eq_true rfl, Nat.le_of_ble_eq_true rfl⟩ hP hD (p_all _) 0 rfl rfl hl rfl rfl (Nat.le_of_ble_eq_true rfl) dX6_whyNotHire_28 ⟨Nat.zero_le _, Nat.zero_le _⟩) hP hD hS hA (p_all _) (p_back _) (fun H locs hP hD hS => ?_)
      refine lv_sipush (v := (-1000)) hx hb dX6_whyNotHire_31 (by decide) ?_
      refine lv_icmp_eq (tgt := 43) hx hb dX6_whyNotHire_34 (by decide) (fun (c_3 : (kbL (mZ r) x cn 0 (-1000)) = (-1000)) => ?_) (fun (c_3 : ¬ (kbL (mZ r) x cn 0 (-1000)) = (-1000)) => ?_)
      · refine lv_aload_n hx hb dX6_whyNotHire_43 rfl (lv_at hl 0 rfl) ?_
        refine x_get (v := .ref (o 1)) X 0 0 in_X6 hP rfl rfl (by decide) wF_X6_7 rfl rfl dX6_whyNotHire_44 ?_
        refine lv_bipush (v := 7) hx hb dX6_whyNotHire_47 (by decide) ?_
        refine x_iald (v := ((mZ r) 7)) X 1 7 hP rfl rfl (by decide) (Nat.le_of_ble_eq_true rfl) rfl dX6_whyNotHire_49 ?_
        refine W.eq (g2 := F0 m 50 ls [.int (nI cn)]) (by rw [hz]) ?_
        refine lv_bipush (v := 6) hx hb dX6_whyNotHire_50 (by decide) ?_
        refine lv_icmp_ne (tgt := 61) hx hb dX6_whyNotHire_52 (by decide) (fun (c_4 : ¬ (nI cn) = 6) => ?_) (fun (c_4 : (nI cn) = 6) => ?_)
        · refine lv_iconst (v := 0) hx hb dX6_whyNotHire_61 (by decide) ?_
          exact x_iret X hr hlocks hP hD hS (by simp only [wnh, if_neg c_1, if_neg c_2, if_pos c_3, if_neg c_4]) dX6_whyNotHire_62
        · refine lv_sipush (v := (-1004)) hx hb dX6_whyNotHire_55 (by decide) ?_
          refine lv_goto (tgt := 62) hx hb dX6_whyNotHire_58 (by decide) ?_
          exact x_iret X hr hlocks hP hD hS (by simp only [wnh, if_neg c_1, if_neg c_2, if_pos c_3, if_pos c_4]) dX6_whyNotHire_62
      · refine lv_sipush (v := (-1003)) hx hb dX6_whyNotHire_37 (by decide) ?_
        refine lv_goto (tgt := 62) hx hb dX6_whyNotHire_40 (by decide) ?_
        exact x_iret X hr hlocks hP hD hS (by simp only [wnh, if_neg c_1, if_neg c_2, if_neg c_3]) dX6_whyNotHire_62
    · refine lv_sipush (v := (-1002)) hx hb dX6_whyNotHire_22 (by decide) ?_
      exact x_iret X hr hlocks hP hD hS (by simp only [wnh, if_neg c_1, if_pos c_2]) dX6_whyNotHire_25

def hirM (z : RI) (cn : Nat) (x w : Int32) : RI := upd (upd (upd z (36 + 2 * cn) x) (36 + 2 * cn + 1) w) 7 (nI (cn + 1))
theorem hz_a {z : RI} {cn k : Nat} {x : Int32} (hz : z 7 = nI cn) (hk : 7 < k) : upd z k x 7 = nI cn := by unfold upd; rw [if_neg (by omega)]; exact hz
set_option maxHeartbeats 4000000 in
set_option maxRecDepth 100000 in
theorem c_X6_hires (l : Launch) (g : wG) (o : Nat → Nat) (r : MS) (cn : Nat) (hc : cn < 6) (hz : mZ r 7 = nI cn) (x w : Int32) : CtI l g 1 yX6_hires cX6_hires 3 (some .int) [.ref (o 0), .int x, .int w] (MW g o r) (nI (cn + 1)) (MW g o (mz r (hirM (mZ r) cn x w))) := by
  intro sz
  refine x_enter (Qc := fun A => QI g A (nI (cn + 1)) (MW g o (mz r (hirM (mZ r) cn x w)))) (by decide) (Nat.le_of_ble_eq_true rfl) ?_
  intro p e s m args below meth c X hr hlocks A hA hP hD hS ls hl
  obtain ⟨⟨hx, hb, hml, hown, hts⟩, hK, hN⟩ := id X
  have hl : lv_has ls 3 [(0, .ref (o 0)), (1, .int x), (2, .int w)] := hl
  refine lv_aload_n hx hb dX6_hires_0 rfl (lv_at hl 0 rfl) ?_
  refine x_get (v := .ref (o 1)) X 0 0 in_X6 hP rfl rfl (by decide) wF_X6_7 rfl rfl dX6_hires_1 ?_
  refine lv_bipush (v := 36) hx hb dX6_hires_4 (by decide) ?_
  refine lv_iconst (v := 2) hx hb dX6_hires_6 (by decide) ?_
  refine lv_aload_n hx hb dX6_hires_7 rfl (lv_at hl 0 rfl) ?_
  refine x_get (v := .ref (o 1)) X 0 0 in_X6 hP rfl rfl (by decide) wF_X6_7 rfl rfl dX6_hires_8 ?_
  refine lv_bipush (v := 7) hx hb dX6_hires_11 (by decide) ?_
  refine x_iald (v := ((mZ r) 7)) X 1 7 hP rfl rfl (by decide) (Nat.le_of_ble_eq_true rfl) rfl dX6_hires_13 ?_
  refine W.eq (g2 := F0 m 14 ls [.int (nI cn), .int 2, .int 36, .ref (o 1)]) (by rw [hz]) ?_
  refine lv_imul hx hb dX6_hires_14 ?_
  refine lv_iadd hx hb dX6_hires_15 ?_
  refine lv_iload_n hx hb dX6_hires_16 rfl (lv_at hl 1 rfl) ?_
  refine x_iast (ws2 := MW g o (mz r (upd (mZ r) (36 + 2 * cn) x))) X 1 (36 + 2 * cn) hP hD hS rfl (ix_s cn) (by omega) (Nat.le_of_ble_eq_true rfl) rfl dX6_hires_17 (fun H locs hP hD hS => ?_)
  refine lv_aload_n hx hb dX6_hires_18 rfl (lv_at hl 0 rfl) ?_
  refine x_get (v := .ref (o 1)) X 0 0 in_X6 hP rfl rfl (by decide) wF_X6_7 rfl rfl dX6_hires_19 ?_
  refine lv_bipush (v := 36) hx hb dX6_hires_22 (by decide) ?_
  refine lv_iconst (v := 2) hx hb dX6_hires_24 (by decide) ?_
  refine lv_aload_n hx hb dX6_hires_25 rfl (lv_at hl 0 rfl) ?_
  refine x_get (v := .ref (o 1)) X 0 0 in_X6 hP rfl rfl (by decide) wF_X6_7 rfl rfl dX6_hires_26 ?_
  refine lv_bipush (v := 7) hx hb dX6_hires_29 (by decide) ?_
  refine x_iald (v := ((upd (mZ r) (36 + 2 * cn) x) 7)) X 1 7 hP rfl rfl (by decide) (Nat.le_of_ble_eq_true rfl) rfl dX6_hires_31 ?_
  refine W.eq (g2 := F0 m 32 ls [.int (nI cn), .int 2, .int 36, .ref (o 1)]) (by rw [hz_a hz (by omega)]) ?_
  refine lv_imul hx hb dX6_hires_32 ?_
  refine lv_iadd hx hb dX6_hires_33 ?_
  refine lv_iconst (v := 1) hx hb dX6_hires_34 (by decide) ?_
  refine lv_iadd hx hb dX6_hires_35 ?_
  refine lv_iload_n hx hb dX6_hires_36 rfl (lv_at hl 2 rfl) ?_
  refine x_iast (ws2 := MW g o (mz r (upd (upd (mZ r) (36 + 2 * cn) x) (36 + 2 * cn + 1) w))) X 1 (36 + 2 * cn + 1) hP hD hS rfl (ix_w cn) (by omega) (Nat.le_of_ble_eq_true rfl) rfl dX6_hires_37 (fun H locs hP hD hS => ?_)
  refine lv_aload_n hx hb dX6_hires_38 rfl (lv_at hl 0 rfl) ?_
  refine x_get (v := .ref (o 1)) X 0 0 in_X6 hP rfl rfl (by decide) wF_X6_7 rfl rfl dX6_hires_39 ?_
  refine lv_bipush (v := 7) hx hb dX6_hires_42 (by decide) ?_
  refine lv_dup2_11 hx hb dX6_hires_44 rfl rfl ?_
  refine x_iald (v := ((upd (upd (mZ r) (36 + 2 * cn) x) (36 + 2 * cn + 1) w) 7)) X 1 7 hP rfl rfl (by decide) (Nat.le_of_ble_eq_true rfl) rfl dX6_hires_45 ?_
  refine W.eq (g2 := F0 m 46 ls [.int (nI cn), .int 7, .ref (o 1)]) (by rw [hz_a (hz_a hz (by omega)) (by omega)]) ?_
  refine lv_iconst (v := 1) hx hb dX6_hires_46 (by decide) ?_
  refine lv_iadd hx hb dX6_hires_47 ?_
  refine W.eq (g2 := F0 m 48 ls [.int (nI (cn + 1)), .int 7, .ref (o 1)]) (by rw [nI_1]) ?_
  refine x_iast (ws2 := MW g o (mz r (upd (upd (upd (mZ r) (36 + 2 * cn) x) (36 + 2 * cn + 1) w) 7 (nI (cn + 1))))) X 1 7 hP hD hS rfl rfl (by decide) (Nat.le_of_ble_eq_true rfl) rfl dX6_hires_48 (fun H locs hP hD hS => ?_)
  refine lv_aload_n hx hb dX6_hires_49 rfl (lv_at hl 0 rfl) ?_
  refine x_get (v := .ref (o 1)) X 0 0 in_X6 hP rfl rfl (by decide) wF_X6_7 rfl rfl dX6_hires_50 ?_
  refine lv_bipush (v := 7) hx hb dX6_hires_53 (by decide) ?_
  refine x_iald (v := (nI (cn + 1))) X 1 7 hP rfl rfl (by decide) (Nat.le_of_ble_eq_true rfl) rfl dX6_hires_55 ?_
  have E : (MW g o (mz r (upd (upd (upd (mZ r) (36 + 2 * cn) x) (36 + 2 * cn + 1) w) 7 (nI (cn + 1)))) : va_W) = MW g o (mz r (hirM (mZ r) cn x w)) := by (simp only [hirM]) <;> rfl
  exact x_iret X hr hlocks (pw E hP) (dw E hD) hS (by (simp only [hirM]) <;> rfl) dX6_hires_56

def tmM (z : RI) (b : Nat) : Int32 := jrem ((jrem (z 0) 720 + z (36 + 2 * b + 1)) + 720) 720
set_option maxHeartbeats 4000000 in
set_option maxRecDepth 100000 in
theorem c_X6_timeOf (l : Launch) (g : wG) (o : Nat → Nat) (r : MS) (k : Nat) (hk : k < 6) : CtI l g 1 yX6_timeOf cX6_timeOf 2 (some .int) [.ref (o 0), .int (nI k)] (MW g o r) (tmM (mZ r) k) (MW g o r) := by
  intro sz
  refine x_enter (Qc := fun A => QI g A (tmM (mZ r) k) (MW g o r)) (by decide) (Nat.le_of_ble_eq_true rfl) ?_
  intro p e s m args below meth c X hr hlocks A hA hP hD hS ls hl
  obtain ⟨⟨hx, hb, hml, hown, hts⟩, hK, hN⟩ := id X
  have hl : lv_has ls 2 [(0, .ref (o 0)), (1, .int (nI k))] := hl
  refine lv_aload_n hx hb dX6_timeOf_0 rfl (lv_at hl 0 rfl) ?_
  refine x_get (v := .ref (o 1)) X 0 0 in_X6 hP rfl rfl (by decide) wF_X6_7 rfl rfl dX6_timeOf_1 ?_
  refine lv_iconst (v := 0) hx hb dX6_timeOf_4 (by decide) ?_
  refine x_iald (v := ((mZ r) 0)) X 1 0 hP rfl rfl (by decide) (Nat.le_of_ble_eq_true rfl) rfl dX6_timeOf_5 ?_
  refine lv_sipush (v := 720) hx hb dX6_timeOf_6 (by decide) ?_
  refine lv_irem hx hb dX6_timeOf_9 (by decide) ?_
  refine lv_aload_n hx hb dX6_timeOf_10 rfl (lv_at hl 0 rfl) ?_
  refine lv_iload_n hx hb dX6_timeOf_11 rfl (lv_at hl 1 rfl) ?_
  refine x_goI (wn := MW g o r) (x_rV (As := [.int (nI k)]) X (c_X6_wrongOf l g o r k hk  _) yf_X6_wrongOf yi_X6_wrongOf wM_X6_111 ⟨Nat.le_of_ble_eq_true rfl, Nat.le_of_ble_eq_true rfl⟩ hP hD (p_all _) 0 rfl rfl hl rfl rfl (Nat.le_of_ble_eq_true rfl) dX6_timeOf_12 ⟨Nat.zero_le _, Nat.zero_le _⟩) hP hD hS hA (p_all _) (p_back _) (fun H locs hP hD hS => ?_)
  refine lv_iadd hx hb dX6_timeOf_15 ?_
  refine lv_sipush (v := 720) hx hb dX6_timeOf_16 (by decide) ?_
  refine lv_iadd hx hb dX6_timeOf_19 ?_
  refine lv_sipush (v := 720) hx hb dX6_timeOf_20 (by decide) ?_
  refine lv_irem hx hb dX6_timeOf_23 (by decide) ?_
  exact x_iret X hr hlocks hP hD hS rfl dX6_timeOf_24

def mSet (r : MS) (a b : Int32) : Int32 × MS := if irM a b = 0 then (-1002, r) else (mZ r (1 + a.toNatClampNeg), mz (mrec r) (upd (mZ r) (1 + a.toNatClampNeg) b))
def mSetting (r : MS) (a : Int32) : Int32 := if isw a 0 2 = 0 then -1002 else mZ r (1 + a.toNatClampNeg)
theorem irM_3 {a b : Int32} (h : ¬ irM a b = 0) : a = 0 ∨ a = 1 ∨ a = 2 := by
  by_cases h0 : a = 0
  · exact Or.inl h0
  · by_cases h1 : a = 1
    · exact Or.inr (Or.inl h1)
    · by_cases h2 : a = 2
      · exact Or.inr (Or.inr h2)
      · unfold irM at h
        rw [if_neg h0, if_neg h1, if_neg h2] at h
        exact absurd rfl h
set_option maxHeartbeats 4000000 in
set_option maxRecDepth 100000 in
theorem c_X6_set_e (l : Launch) (g : wG) (o : Nat → Nat) (r : MS) (a b : Int32) (hi : irM a b = 0) : CtI l g 2 yX6_set cX6_set 4 (some .int) [.ref (o 0), .int a, .int b] (MW g o r) ((mSet r a b).1) (MW g o (mSet r a b).2) := by
  intro sz
  refine x_enter (Qc := fun A => QI g A ((mSet r a b).1) (MW g o (mSet r a b).2)) (by decide) (Nat.le_of_ble_eq_true rfl) ?_
  intro p e s m args below meth c X hr hlocks A hA hP hD hS ls hl
  obtain ⟨⟨hx, hb, hml, hown, hts⟩, hK, hN⟩ := id X
  have hl : lv_has ls 4 [(0, .ref (o 0)), (1, .int a), (2, .int b)] := hl
  refine lv_iload_n hx hb dX6_set_0 rfl (lv_at hl 1 rfl) ?_
  refine lv_iload_n hx hb dX6_set_1 rfl (lv_at hl 2 rfl) ?_
  refine x_goI (wn := MW g o r) (x_rS (As := [.int a, .int b]) X (c_X6_isInRange l g a b _) yf_X6_isInRange ys_X6_isInRange wM_X6_48 ⟨Nat.le_of_ble_eq_true rfl, Nat.le_of_ble_eq_true rfl⟩ hP hD (p_none _) hl rfl rfl (Nat.le_of_ble_eq_true rfl) dX6_set_2 ⟨Nat.zero_le _, Nat.zero_le _⟩) hP hD hS hA (p_none _) (p_noneB _) (fun H locs hP hD hS => ?_)
  refine lv_if_ne (tgt := 12) hx hb dX6_set_5 (by decide) (fun q9 => absurd (show (irM a b) = 0 from hi) q9) (fun c_1 => ?_)
  refine lv_sipush (v := (-1002)) hx hb dX6_set_8 (by decide) ?_
  have E : (MW g o r : va_W) = MW g o (mSet r a b).2 := by (simp only [mSet, if_pos hi]) <;> rfl
  exact x_iret X hr hlocks (pw E hP) (dw E hD) hS (by (simp only [mSet, if_pos hi]) <;> rfl) dX6_set_11

set_option maxHeartbeats 4000000 in
set_option maxRecDepth 100000 in
theorem c_X6_set_0 (l : Launch) (g : wG) (o : Nat → Nat) (r : MS) (hm5 : mM r ≤ 5) (b : Int32) (hi : ¬ irM 0 b = 0) : CtI l g 2 yX6_set cX6_set 4 (some .int) [.ref (o 0), .int 0, .int b] (MW g o r) ((mSet r 0 b).1) (MW g o (mSet r 0 b).2) := by
  intro sz
  refine x_enter (Qc := fun A => QI g A ((mSet r 0 b).1) (MW g o (mSet r 0 b).2)) (by decide) (Nat.le_of_ble_eq_true rfl) ?_
  intro p e s m args below meth c X hr hlocks A hA hP hD hS ls hl
  obtain ⟨⟨hx, hb, hml, hown, hts⟩, hK, hN⟩ := id X
  have hl : lv_has ls 4 [(0, .ref (o 0)), (1, .int 0), (2, .int b)] := hl
  refine lv_iload_n hx hb dX6_set_0 rfl (lv_at hl 1 rfl) ?_
  refine lv_iload_n hx hb dX6_set_1 rfl (lv_at hl 2 rfl) ?_
  refine x_goI (wn := MW g o r) (x_rS (As := [.int 0, .int b]) X (c_X6_isInRange l g 0 b _) yf_X6_isInRange ys_X6_isInRange wM_X6_48 ⟨Nat.le_of_ble_eq_true rfl, Nat.le_of_ble_eq_true rfl⟩ hP hD (p_none _) hl rfl rfl (Nat.le_of_ble_eq_true rfl) dX6_set_2 ⟨Nat.zero_le _, Nat.zero_le _⟩) hP hD hS hA (p_none _) (p_noneB _) (fun H locs hP hD hS => ?_)
  refine lv_if_ne (tgt := 12) hx hb dX6_set_5 (by decide) (fun c_1 => ?_) (fun q9 => absurd (show (irM 0 b) = 0 from q9) (show ¬ (irM 0 b) = 0 from hi))
  refine lv_aload_n hx hb dX6_set_12 rfl (lv_at hl 0 rfl) ?_
  refine x_goV (wn := MW g o (mrec r)) (x_rV (As := []) X (c_X6_record l g o r hm5  _) yf_X6_record yi_X6_record wM_X6_45 ⟨Nat.le_of_ble_eq_true rfl, Nat.le_of_ble_eq_true rfl⟩ hP hD (p_all _) 0 rfl rfl hl rfl rfl (Nat.le_of_ble_eq_true rfl) dX6_set_13 ⟨Nat.zero_le _, Nat.zero_le _⟩) hP hD hS hA (p_all _) (p_back _) (fun H locs hP hD hS => ?_)
  refine lv_aload_n hx hb dX6_set_16 rfl (lv_at hl 0 rfl) ?_
  refine x_get (v := .ref (o 1)) X 0 0 in_X6 hP rfl rfl (by decide) wF_X6_7 rfl rfl dX6_set_17 ?_
  refine lv_iconst (v := 1) hx hb dX6_set_20 (by decide) ?_
  refine lv_iload_n hx hb dX6_set_21 rfl (lv_at hl 1 rfl) ?_
  refine lv_iadd hx hb dX6_set_22 ?_
  refine x_iald (v := ((mZ (mrec r)) 1)) X 1 1 hP rfl (by decide) (by decide) (Nat.le_of_ble_eq_true rfl) rfl dX6_set_23 ?_
  refine lv_istore_n (lv' := [(3, .int ((mZ (mrec r)) 1)), (0, .ref (o 0)), (1, .int 0), (2, .int b)]) hx hb dX6_set_24 rfl hl (by decide) rfl (fun ls hl => ?_)
  refine lv_aload_n hx hb dX6_set_25 rfl (lv_at hl 1 rfl) ?_
  refine x_get (v := .ref (o 1)) X 0 0 in_X6 hP rfl rfl (by decide) wF_X6_7 rfl rfl dX6_set_26 ?_
  refine lv_iconst (v := 1) hx hb dX6_set_29 (by decide) ?_
  refine lv_iload_n hx hb dX6_set_30 rfl (lv_at hl 2 rfl) ?_
  refine lv_iadd hx hb dX6_set_31 ?_
  refine lv_iload_n hx hb dX6_set_32 rfl (lv_at hl 3 rfl) ?_
  refine x_iast (ws2 := MW g o (mz (mrec r) (upd (mZ (mrec r)) 1 b))) X 1 1 hP hD hS rfl (by decide) (by decide) (Nat.le_of_ble_eq_true rfl) rfl dX6_set_33 (fun H locs hP hD hS => ?_)
  refine lv_iload_n hx hb dX6_set_34 rfl (lv_at hl 0 rfl) ?_
  have E : (MW g o (mz (mrec r) (upd (mZ (mrec r)) 1 b)) : va_W) = MW g o (mSet r 0 b).2 := by (simp only [mSet, p_tn0, if_neg hi]) <;> rfl
  exact x_iret X hr hlocks (pw E hP) (dw E hD) hS (by (simp only [mSet, p_tn0, if_neg hi]) <;> rfl) dX6_set_35

set_option maxHeartbeats 4000000 in
set_option maxRecDepth 100000 in
theorem c_X6_set_1 (l : Launch) (g : wG) (o : Nat → Nat) (r : MS) (hm5 : mM r ≤ 5) (b : Int32) (hi : ¬ irM 1 b = 0) : CtI l g 2 yX6_set cX6_set 4 (some .int) [.ref (o 0), .int 1, .int b] (MW g o r) ((mSet r 1 b).1) (MW g o (mSet r 1 b).2) := by
  intro sz
  refine x_enter (Qc := fun A => QI g A ((mSet r 1 b).1) (MW g o (mSet r 1 b).2)) (by decide) (Nat.le_of_ble_eq_true rfl) ?_
  intro p e s m args below meth c X hr hlocks A hA hP hD hS ls hl
  obtain ⟨⟨hx, hb, hml, hown, hts⟩, hK, hN⟩ := id X
  have hl : lv_has ls 4 [(0, .ref (o 0)), (1, .int 1), (2, .int b)] := hl
  refine lv_iload_n hx hb dX6_set_0 rfl (lv_at hl 1 rfl) ?_
  refine lv_iload_n hx hb dX6_set_1 rfl (lv_at hl 2 rfl) ?_
  refine x_goI (wn := MW g o r) (x_rS (As := [.int 1, .int b]) X (c_X6_isInRange l g 1 b _) yf_X6_isInRange ys_X6_isInRange wM_X6_48 ⟨Nat.le_of_ble_eq_true rfl, Nat.le_of_ble_eq_true rfl⟩ hP hD (p_none _) hl rfl rfl (Nat.le_of_ble_eq_true rfl) dX6_set_2 ⟨Nat.zero_le _, Nat.zero_le _⟩) hP hD hS hA (p_none _) (p_noneB _) (fun H locs hP hD hS => ?_)
  refine lv_if_ne (tgt := 12) hx hb dX6_set_5 (by decide) (fun c_1 => ?_) (fun q9 => absurd (show (irM 1 b) = 0 from q9) (show ¬ (irM 1 b) = 0 from hi))
  refine lv_aload_n hx hb dX6_set_12 rfl (lv_at hl 0 rfl) ?_
  refine x_goV (wn := MW g o (mrec r)) (x_rV (As := []) X (c_X6_record l g o r hm5  _) yf_X6_record yi_X6_record wM_X6_45 ⟨Nat.le_of_ble_eq_true rfl, Nat.le_of_ble_eq_true rfl⟩ hP hD (p_all _) 0 rfl rfl hl rfl rfl (Nat.le_of_ble_eq_true rfl) dX6_set_13 ⟨Nat.zero_le _, Nat.zero_le _⟩) hP hD hS hA (p_all _) (p_back _) (fun H locs hP hD hS => ?_)
  refine lv_aload_n hx hb dX6_set_16 rfl (lv_at hl 0 rfl) ?_
  refine x_get (v := .ref (o 1)) X 0 0 in_X6 hP rfl rfl (by decide) wF_X6_7 rfl rfl dX6_set_17 ?_
  refine lv_iconst (v := 1) hx hb dX6_set_20 (by decide) ?_
  refine lv_iload_n hx hb dX6_set_21 rfl (lv_at hl 1 rfl) ?_
  refine lv_iadd hx hb dX6_set_22 ?_
  refine x_iald (v := ((mZ (mrec r)) 2)) X 1 2 hP rfl (by decide) (by decide) (Nat.le_of_ble_eq_true rfl) rfl dX6_set_23 ?_
  refine lv_istore_n (lv' := [(3, .int ((mZ (mrec r)) 2)), (0, .ref (o 0)), (1, .int 1), (2, .int b)]) hx hb dX6_set_24 rfl hl (by decide) rfl (fun ls hl => ?_)
  refine lv_aload_n hx hb dX6_set_25 rfl (lv_at hl 1 rfl) ?_
  refine x_get (v := .ref (o 1)) X 0 0 in_X6 hP rfl rfl (by decide) wF_X6_7 rfl rfl dX6_set_26 ?_
  refine lv_iconst (v := 1) hx hb dX6_set_29 (by decide) ?_
  refine lv_iload_n hx hb dX6_set_30 rfl (lv_at hl 2 rfl) ?_
  refine lv_iadd hx hb dX6_set_31 ?_
  refine lv_iload_n hx hb dX6_set_32 rfl (lv_at hl 3 rfl) ?_
  refine x_iast (ws2 := MW g o (mz (mrec r) (upd (mZ (mrec r)) 2 b))) X 1 2 hP hD hS rfl (by decide) (by decide) (Nat.le_of_ble_eq_true rfl) rfl dX6_set_33 (fun H locs hP hD hS => ?_)
  refine lv_iload_n hx hb dX6_set_34 rfl (lv_at hl 0 rfl) ?_
  have E : (MW g o (mz (mrec r) (upd (mZ (mrec r)) 2 b)) : va_W) = MW g o (mSet r 1 b).2 := by (simp only [mSet, p_tn1, if_neg hi]) <;> rfl
  exact x_iret X hr hlocks (pw E hP) (dw E hD) hS (by (simp only [mSet, p_tn1, if_neg hi]) <;> rfl) dX6_set_35

set_option maxHeartbeats 4000000 in
set_option maxRecDepth 100000 in
theorem c_X6_set_2 (l : Launch) (g : wG) (o : Nat → Nat) (r : MS) (hm5 : mM r ≤ 5) (b : Int32) (hi : ¬ irM 2 b = 0) : CtI l g 2 yX6_set cX6_set 4 (some .int) [.ref (o 0), .int 2, .int b] (MW g o r) ((mSet r 2 b).1) (MW g o (mSet r 2 b).2) := by
  intro sz
  refine x_enter (Qc := fun A => QI g A ((mSet r 2 b).1) (MW g o (mSet r 2 b).2)) (by decide) (Nat.le_of_ble_eq_true rfl) ?_
  intro p e s m args below meth c X hr hlocks A hA hP hD hS ls hl
  obtain ⟨⟨hx, hb, hml, hown, hts⟩, hK, hN⟩ := id X
  have hl : lv_has ls 4 [(0, .ref (o 0)), (1, .int 2), (2, .int b)] := hl
  refine lv_iload_n hx hb dX6_set_0 rfl (lv_at hl 1 rfl) ?_
  refine lv_iload_n hx hb dX6_set_1 rfl (lv_at hl 2 rfl) ?_
  refine x_goI (wn := MW g o r) (x_rS (As := [.int 2, .int b]) X (c_X6_isInRange l g 2 b _) yf_X6_isInRange ys_X6_isInRange wM_X6_48 ⟨Nat.le_of_ble_eq_true rfl, Nat.le_of_ble_eq_true rfl⟩ hP hD (p_none _) hl rfl rfl (Nat.le_of_ble_eq_true rfl) dX6_set_2 ⟨Nat.zero_le _, Nat.zero_le _⟩) hP hD hS hA (p_none _) (p_noneB _) (fun H locs hP hD hS => ?_)
  refine lv_if_ne (tgt := 12) hx hb dX6_set_5 (by decide) (fun c_1 => ?_) (fun q9 => absurd (show (irM 2 b) = 0 from q9) (show ¬ (irM 2 b) = 0 from hi))
  refine lv_aload_n hx hb dX6_set_12 rfl (lv_at hl 0 rfl) ?_
  refine x_goV (wn := MW g o (mrec r)) (x_rV (As := []) X (c_X6_record l g o r hm5  _) yf_X6_record yi_X6_record wM_X6_45 ⟨Nat.le_of_ble_eq_true rfl, Nat.le_of_ble_eq_true rfl⟩ hP hD (p_all _) 0 rfl rfl hl rfl rfl (Nat.le_of_ble_eq_true rfl) dX6_set_13 ⟨Nat.zero_le _, Nat.zero_le _⟩) hP hD hS hA (p_all _) (p_back _) (fun H locs hP hD hS => ?_)
  refine lv_aload_n hx hb dX6_set_16 rfl (lv_at hl 0 rfl) ?_
  refine x_get (v := .ref (o 1)) X 0 0 in_X6 hP rfl rfl (by decide) wF_X6_7 rfl rfl dX6_set_17 ?_
  refine lv_iconst (v := 1) hx hb dX6_set_20 (by decide) ?_
  refine lv_iload_n hx hb dX6_set_21 rfl (lv_at hl 1 rfl) ?_
  refine lv_iadd hx hb dX6_set_22 ?_
  refine x_iald (v := ((mZ (mrec r)) 3)) X 1 3 hP rfl (by decide) (by decide) (Nat.le_of_ble_eq_true rfl) rfl dX6_set_23 ?_
  refine lv_istore_n (lv' := [(3, .int ((mZ (mrec r)) 3)), (0, .ref (o 0)), (1, .int 2), (2, .int b)]) hx hb dX6_set_24 rfl hl (by decide) rfl (fun ls hl => ?_)
  refine lv_aload_n hx hb dX6_set_25 rfl (lv_at hl 1 rfl) ?_
  refine x_get (v := .ref (o 1)) X 0 0 in_X6 hP rfl rfl (by decide) wF_X6_7 rfl rfl dX6_set_26 ?_
  refine lv_iconst (v := 1) hx hb dX6_set_29 (by decide) ?_
  refine lv_iload_n hx hb dX6_set_30 rfl (lv_at hl 2 rfl) ?_
  refine lv_iadd hx hb dX6_set_31 ?_
  refine lv_iload_n hx hb dX6_set_32 rfl (lv_at hl 3 rfl) ?_
  refine x_iast (ws2 := MW g o (mz (mrec r) (upd (mZ (mrec r)) 3 b))) X 1 3 hP hD hS rfl (by decide) (by decide) (Nat.le_of_ble_eq_true rfl) rfl dX6_set_33 (fun H locs hP hD hS => ?_)
  refine lv_iload_n hx hb dX6_set_34 rfl (lv_at hl 0 rfl) ?_
  have E : (MW g o (mz (mrec r) (upd (mZ (mrec r)) 3 b)) : va_W) = MW g o (mSet r 2 b).2 := by (simp only [mSet, p_tn2, if_neg hi]) <;> rfl
  exact x_iret X hr hlocks (pw E hP) (dw E hD) hS (by (simp only [mSet, p_tn2, if_neg hi]) <;> rfl) dX6_set_35

theorem c_X6_set (l : Launch) (g : wG) (o : Nat → Nat) (r : MS) (hm5 : mM r ≤ 5) (a b : Int32) : CtI l g 2 yX6_set cX6_set 4 (some .int) [.ref (o 0), .int a, .int b] (MW g o r) ((mSet r a b).1) (MW g o (mSet r a b).2) := by
  by_cases hi : irM a b = 0
  · exact c_X6_set_e l g o r a b hi
  · rcases irM_3 hi with rfl | rfl | rfl
    · exact c_X6_set_0 l g o r hm5 b hi
    · exact c_X6_set_1 l g o r hm5 b hi
    · exact c_X6_set_2 l g o r hm5 b hi
set_option maxHeartbeats 4000000 in
set_option maxRecDepth 100000 in
theorem c_X6_setting_e (l : Launch) (g : wG) (o : Nat → Nat) (r : MS) (a : Int32) (ha : isw a 0 2 = 0) : CtI l g 1 yX6_setting cX6_setting 2 (some .int) [.ref (o 0), .int a] (MW g o r) (mSetting r a) (MW g o r) := by
  intro sz
  refine x_enter (Qc := fun A => QI g A (mSetting r a) (MW g o r)) (by decide) (Nat.le_of_ble_eq_true rfl) ?_
  intro p e s m args below meth c X hr hlocks A hA hP hD hS ls hl
  obtain ⟨⟨hx, hb, hml, hown, hts⟩, hK, hN⟩ := id X
  have hl : lv_has ls 2 [(0, .ref (o 0)), (1, .int a)] := hl
  refine lv_iload_n hx hb dX6_setting_0 rfl (lv_at hl 1 rfl) ?_
  refine lv_iconst (v := 0) hx hb dX6_setting_1 (by decide) ?_
  refine lv_iconst (v := 2) hx hb dX6_setting_2 (by decide) ?_
  refine x_goI (wn := MW g o r) (x_rS (As := [.int a, .int 0, .int 2]) X (c_X6_in l g a 0 2 _) yf_X6_in ys_X6_in wM_X6_33 ⟨Nat.le_of_ble_eq_true rfl, Nat.le_of_ble_eq_true rfl⟩ hP hD (p_none _) hl rfl rfl (Nat.le_of_ble_eq_true rfl) dX6_setting_3 ⟨Nat.zero_le _, Nat.zero_le _⟩) hP hD hS hA (p_none _) (p_noneB _) (fun H locs hP hD hS => ?_)
  refine lv_if_eq (tgt := 20) hx hb dX6_setting_6 (by decide) (fun c_1 => ?_) (fun q9 => absurd (show (isw a 0 2) = 0 from ha) (show ¬ ((isw a 0 2) = 0) from q9))
  refine lv_sipush (v := (-1002)) hx hb dX6_setting_20 (by decide) ?_
  exact x_iret X hr hlocks hP hD hS (by simp only [mSetting, if_pos ha]) dX6_setting_23

set_option maxHeartbeats 4000000 in
set_option maxRecDepth 100000 in
theorem c_X6_setting_0 (l : Launch) (g : wG) (o : Nat → Nat) (r : MS) : CtI l g 1 yX6_setting cX6_setting 2 (some .int) [.ref (o 0), .int 0] (MW g o r) (mSetting r 0) (MW g o r) := by
  intro sz
  refine x_enter (Qc := fun A => QI g A (mSetting r 0) (MW g o r)) (by decide) (Nat.le_of_ble_eq_true rfl) ?_
  intro p e s m args below meth c X hr hlocks A hA hP hD hS ls hl
  obtain ⟨⟨hx, hb, hml, hown, hts⟩, hK, hN⟩ := id X
  have hl : lv_has ls 2 [(0, .ref (o 0)), (1, .int 0)] := hl
  refine lv_iload_n hx hb dX6_setting_0 rfl (lv_at hl 1 rfl) ?_
  refine lv_iconst (v := 0) hx hb dX6_setting_1 (by decide) ?_
  refine lv_iconst (v := 2) hx hb dX6_setting_2 (by decide) ?_
  refine x_goI (wn := MW g o r) (x_rS (As := [.int 0, .int 0, .int 2]) X (c_X6_in l g 0 0 2 _) yf_X6_in ys_X6_in wM_X6_33 ⟨Nat.le_of_ble_eq_true rfl, Nat.le_of_ble_eq_true rfl⟩ hP hD (p_none _) hl rfl rfl (Nat.le_of_ble_eq_true rfl) dX6_setting_3 ⟨Nat.zero_le _, Nat.zero_le _⟩) hP hD hS hA (p_none _) (p_noneB _) (fun H locs hP hD hS => ?_)
  refine lv_if_eq (tgt := 20) hx hb dX6_setting_6 (by decide) (fun q9 => absurd q9 (show ¬ (isw 0 0 2) = 0 from (by decide))) (fun c_1 => ?_)
  refine lv_aload_n hx hb dX6_setting_9 rfl (lv_at hl 0 rfl) ?_
  refine x_get (v := .ref (o 1)) X 0 0 in_X6 hP rfl rfl (by decide) wF_X6_7 rfl rfl dX6_setting_10 ?_
  refine lv_iconst (v := 1) hx hb dX6_setting_13 (by decide) ?_
  refine lv_iload_n hx hb dX6_setting_14 rfl (lv_at hl 1 rfl) ?_
  refine lv_iadd hx hb dX6_setting_15 ?_
  refine x_iald (v := ((mZ r) 1)) X 1 1 hP rfl (by decide) (by decide) (Nat.le_of_ble_eq_true rfl) rfl dX6_setting_16 ?_
  refine lv_goto (tgt := 23) hx hb dX6_setting_17 (by decide) ?_
  exact x_iret X hr hlocks hP hD hS rfl dX6_setting_23

set_option maxHeartbeats 4000000 in
set_option maxRecDepth 100000 in
theorem c_X6_setting_1 (l : Launch) (g : wG) (o : Nat → Nat) (r : MS) : CtI l g 1 yX6_setting cX6_setting 2 (some .int) [.ref (o 0), .int 1] (MW g o r) (mSetting r 1) (MW g o r) := by
  intro sz
  refine x_enter (Qc := fun A => QI g A (mSetting r 1) (MW g o r)) (by decide) (Nat.le_of_ble_eq_true rfl) ?_
  intro p e s m args below meth c X hr hlocks A hA hP hD hS ls hl
  obtain ⟨⟨hx, hb, hml, hown, hts⟩, hK, hN⟩ := id X
  have hl : lv_has ls 2 [(0, .ref (o 0)), (1, .int 1)] := hl
  refine lv_iload_n hx hb dX6_setting_0 rfl (lv_at hl 1 rfl) ?_
  refine lv_iconst (v := 0) hx hb dX6_setting_1 (by decide) ?_
  refine lv_iconst (v := 2) hx hb dX6_setting_2 (by decide) ?_
  refine x_goI (wn := MW g o r) (x_rS (As := [.int 1, .int 0, .int 2]) X (c_X6_in l g 1 0 2 _) yf_X6_in ys_X6_in wM_X6_33 ⟨Nat.le_of_ble_eq_true rfl, Nat.le_of_ble_eq_true rfl⟩ hP hD (p_none _) hl rfl rfl (Nat.le_of_ble_eq_true rfl) dX6_setting_3 ⟨Nat.zero_le _, Nat.zero_le _⟩) hP hD hS hA (p_none _) (p_noneB _) (fun H locs hP hD hS => ?_)
  refine lv_if_eq (tgt := 20) hx hb dX6_setting_6 (by decide) (fun q9 => absurd q9 (show ¬ (isw 1 0 2) = 0 from (by decide))) (fun c_1 => ?_)
  refine lv_aload_n hx hb dX6_setting_9 rfl (lv_at hl 0 rfl) ?_
  refine x_get (v := .ref (o 1)) X 0 0 in_X6 hP rfl rfl (by decide) wF_X6_7 rfl rfl dX6_setting_10 ?_
  refine lv_iconst (v := 1) hx hb dX6_setting_13 (by decide) ?_
  refine lv_iload_n hx hb dX6_setting_14 rfl (lv_at hl 1 rfl) ?_
  refine lv_iadd hx hb dX6_setting_15 ?_
  refine x_iald (v := ((mZ r) 2)) X 1 2 hP rfl (by decide) (by decide) (Nat.le_of_ble_eq_true rfl) rfl dX6_setting_16 ?_
  refine lv_goto (tgt := 23) hx hb dX6_setting_17 (by decide) ?_
  exact x_iret X hr hlocks hP hD hS rfl dX6_setting_23

set_option maxHeartbeats 4000000 in
set_option maxRecDepth 100000 in
theorem c_X6_setting_2 (l : Launch) (g : wG) (o : Nat → Nat) (r : MS) : CtI l g 1 yX6_setting cX6_setting 2 (some .int) [.ref (o 0), .int 2] (MW g o r) (mSetting r 2) (MW g o r) := by
  intro sz
  refine x_enter (Qc := fun A => QI g A (mSetting r 2) (MW g o r)) (by decide) (Nat.le_of_ble_eq_true rfl) ?_
  intro p e s m args below meth c X hr hlocks A hA hP hD hS ls hl
  obtain ⟨⟨hx, hb, hml, hown, hts⟩, hK, hN⟩ := id X
  have hl : lv_has ls 2 [(0, .ref (o 0)), (1, .int 2)] := hl
  refine lv_iload_n hx hb dX6_setting_0 rfl (lv_at hl 1 rfl) ?_
  refine lv_iconst (v := 0) hx hb dX6_setting_1 (by decide) ?_
  refine lv_iconst (v := 2) hx hb dX6_setting_2 (by decide) ?_
  refine x_goI (wn := MW g o r) (x_rS (As := [.int 2, .int 0, .int 2]) X (c_X6_in l g 2 0 2 _) yf_X6_in ys_X6_in wM_X6_33 ⟨Nat.le_of_ble_eq_true rfl, Nat.le_of_ble_eq_true rfl⟩ hP hD (p_none _) hl rfl rfl (Nat.le_of_ble_eq_true rfl) dX6_setting_3 ⟨Nat.zero_le _, Nat.zero_le _⟩) hP hD hS hA (p_none _) (p_noneB _) (fun H locs hP hD hS => ?_)
  refine lv_if_eq (tgt := 20) hx hb dX6_setting_6 (by decide) (fun q9 => absurd q9 (show ¬ (isw 2 0 2) = 0 from (by decide))) (fun c_1 => ?_)
  refine lv_aload_n hx hb dX6_setting_9 rfl (lv_at hl 0 rfl) ?_
  refine x_get (v := .ref (o 1)) X 0 0 in_X6 hP rfl rfl (by decide) wF_X6_7 rfl rfl dX6_setting_10 ?_
  refine lv_iconst (v := 1) hx hb dX6_setting_13 (by decide) ?_
  refine lv_iload_n hx hb dX6_setting_14 rfl (lv_at hl 1 rfl) ?_
  refine lv_iadd hx hb dX6_setting_15 ?_
  refine x_iald (v := ((mZ r) 3)) X 1 3 hP rfl (by decide) (by decide) (Nat.le_of_ble_eq_true rfl) rfl dX6_setting_16 ?_
  refine lv_goto (tgt := 23) hx hb dX6_setting_17 (by decide) ?_
  exact x_iret X hr hlocks hP hD hS rfl dX6_setting_23

theorem c_X6_setting (l : Launch) (g : wG) (o : Nat → Nat) (r : MS) (a : Int32) : CtI l g 1 yX6_setting cX6_setting 2 (some .int) [.ref (o 0), .int a] (MW g o r) (mSetting r a) (MW g o r) := by
  by_cases ha : isw a 0 2 = 0
  · exact c_X6_setting_e l g o r a ha
  · obtain ⟨k, hk, rfl⟩ := isw_nI (n := 2) (by decide) ha
    rcases (show k = 0 ∨ k = 1 ∨ k = 2 by omega) with rfl | rfl | rfl
    · exact c_X6_setting_0 l g o r
    · exact c_X6_setting_1 l g o r
    · exact c_X6_setting_2 l g o r
def mGear (r : MS) (a b : Int32) : Int32 × MS := if isf a = 0 then (-1001, r) else if isw b 10 60 = 0 then (-1002, r) else (mZ r (8 + 7 * a.toNatClampNeg + 1), mz (mrec r) (upd (upd (mZ r) (8 + 7 * a.toNatClampNeg + 1) b) (8 + 7 * a.toNatClampNeg + 2) 0))
def mOil (r : MS) (a : Int32) : Int32 × MS := if isf a = 0 then (-1001, r) else (oilMR (8 + 7 * a.toNatClampNeg) (mZ r), mz (mrec r) (oilM (8 + 7 * a.toNatClampNeg) (mZ r)))
def mDial (r : MS) (a b : Int32) : Int32 × MS := if isf a = 0 then (-1001, r) else if isw b 0 719 = 0 then (-1002, r) else (distM (mZ r (8 + 7 * a.toNatClampNeg)) b, mz (mrec r) (upd (mZ r) (8 + 7 * a.toNatClampNeg) b))
def mBell (r : MS) (a : Int32) : Int32 × MS := if isf a = 0 then (-1001, r) else (1 - mZ r (8 + 7 * a.toNatClampNeg + 5), mz (mrec r) (hanM (8 + 7 * a.toNatClampNeg) (mZ r)))
set_option maxHeartbeats 4000000 in
set_option maxRecDepth 100000 in
theorem c_X6_gear_e (l : Launch) (g : wG) (o : Nat → Nat) (r : MS) (a b : Int32) (hi : isf a = 0) : CtI l g 2 yX6_gear cX6_gear 4 (some .int) [.ref (o 0), .int a, .int b] (MW g o r) ((mGear r a b).1) (MW g o (mGear r a b).2) := by
  intro sz
  refine x_enter (Qc := fun A => QI g A ((mGear r a b).1) (MW g o (mGear r a b).2)) (by decide) (Nat.le_of_ble_eq_true rfl) ?_
  intro p e s m args below meth c X hr hlocks A hA hP hD hS ls hl
  obtain ⟨⟨hx, hb, hml, hown, hts⟩, hK, hN⟩ := id X
  have hl : lv_has ls 4 [(0, .ref (o 0)), (1, .int a), (2, .int b)] := hl
  refine lv_iload_n hx hb dX6_gear_0 rfl (lv_at hl 1 rfl) ?_
  refine x_goI (wn := MW g o r) (x_rS (As := [.int a]) X (c_X6_isFace l g a _) yf_X6_isFace ys_X6_isFace wM_X6_52 ⟨Nat.le_of_ble_eq_true rfl, Nat.le_of_ble_eq_true rfl⟩ hP hD (p_none _) hl rfl rfl (Nat.le_of_ble_eq_true rfl) dX6_gear_1 ⟨Nat.zero_le _, Nat.zero_le _⟩) hP hD hS hA (p_none _) (p_noneB _) (fun H locs hP hD hS => ?_)
  refine lv_if_ne (tgt := 11) hx hb dX6_gear_4 (by decide) (fun q9 => absurd (show (isf a) = 0 from hi) q9) (fun c_1 => ?_)
  refine lv_sipush (v := (-1001)) hx hb dX6_gear_7 (by decide) ?_
  have E : (MW g o r : va_W) = MW g o (mGear r a b).2 := by (simp only [mGear, if_pos hi]) <;> rfl
  exact x_iret X hr hlocks (pw E hP) (dw E hD) hS (by (simp only [mGear, if_pos hi]) <;> rfl) dX6_gear_10

set_option maxHeartbeats 4000000 in
set_option maxRecDepth 100000 in
theorem c_X6_gear_0 (l : Launch) (g : wG) (o : Nat → Nat) (r : MS) (hm5 : mM r ≤ 5) (b : Int32) : CtI l g 2 yX6_gear cX6_gear 4 (some .int) [.ref (o 0), .int 0, .int b] (MW g o r) ((mGear r 0 b).1) (MW g o (mGear r 0 b).2) := by
  intro sz
  refine x_enter (Qc := fun A => QI g A ((mGear r 0 b).1) (MW g o (mGear r 0 b).2)) (by decide) (Nat.le_of_ble_eq_true rfl) ?_
  intro p e s m args below meth c X hr hlocks A hA hP hD hS ls hl
  obtain ⟨⟨hx, hb, hml, hown, hts⟩, hK, hN⟩ := id X
  have hl : lv_has ls 4 [(0, .ref (o 0)), (1, .int 0), (2, .int b)] := hl
  refine lv_iload_n hx hb dX6_gear_0 rfl (lv_at hl 1 rfl) ?_
  refine x_goI (wn := MW g o r) (x_rS (As := [.int 0]) X (c_X6_isFace l g 0 _) yf_X6_isFace ys_X6_isFace wM_X6_52 ⟨Nat.le_of_ble_eq_true rfl, Nat.le_of_ble_eq_true rfl⟩ hP hD (p_none _) hl rfl rfl (Nat.le_of_ble_eq_true rfl) dX6_gear_1 ⟨Nat.zero_le _, Nat.zero_le _⟩) hP hD hS hA (p_none _) (p_noneB _) (fun H locs hP hD hS => ?_)
  refine lv_if_ne (tgt := 11) hx hb dX6_gear_4 (by decide) (fun c_1 => ?_) (fun q9 => absurd (show (isf 0) = 0 from q9) (show ¬ (isf 0) = 0 from (by decide)))
  refine lv_iload_n hx hb dX6_gear_11 rfl (lv_at hl 2 rfl) ?_
  refine lv_bipush (v := 10) hx hb dX6_gear_12 (by decide) ?_
  refine lv_bipush (v := 60) hx hb dX6_gear_14 (by decide) ?_
  refine x_goI (wn := MW g o r) (x_rS (As := [.int b, .int 10, .int 60]) X (c_X6_in l g b 10 60 _) yf_X6_in ys_X6_in wM_X6_33 ⟨Nat.le_of_ble_eq_true rfl, Nat.le_of_ble_eq_true rfl⟩ hP hD (p_none _) hl rfl rfl (Nat.le_of_ble_eq_true rfl) dX6_gear_16 ⟨Nat.zero_le _, Nat.zero_le _⟩) hP hD hS hA (p_none _) (p_noneB _) (fun H locs hP hD hS => ?_)
  refine lv_if_ne (tgt := 26) hx hb dX6_gear_19 (by decide) (fun (c_2 : ¬ (isw b 10 60) = 0) => ?_) (fun (c_2 : (isw b 10 60) = 0) => ?_)
  · refine lv_aload_n hx hb dX6_gear_26 rfl (lv_at hl 0 rfl) ?_
    refine x_goV (wn := MW g o (mrec r)) (x_rV (As := []) X (c_X6_record l g o r hm5  _) yf_X6_record yi_X6_record wM_X6_45 ⟨Nat.le_of_ble_eq_true rfl, Nat.le_of_ble_eq_true rfl⟩ hP hD (p_all _) 0 rfl rfl hl rfl rfl (Nat.le_of_ble_eq_true rfl) dX6_gear_27 ⟨Nat.zero_le _, Nat.zero_le _⟩) hP hD hS hA (p_all _) (p_back _) (fun H locs hP hD hS => ?_)
    refine lv_aload_n hx hb dX6_gear_30 rfl (lv_at hl 0 rfl) ?_
    refine lv_iload_n hx hb dX6_gear_31 rfl (lv_at hl 1 rfl) ?_
    refine lv_iconst (v := 1) hx hb dX6_gear_32 (by decide) ?_
    refine x_goI (wn := MW g o (mrec r)) (x_rV (As := [.int 0, .int 1]) X (c_X6_of l g o (mrec r) 0 1 (by decide) (by decide)  _) yf_X6_of yi_X6_of wM_X6_56 ⟨Nat.le_of_ble_eq_true rfl, Nat.le_of_ble_eq_true rfl⟩ hP hD (p_all _) 0 rfl rfl hl rfl rfl (Nat.le_of_ble_eq_true rfl) dX6_gear_33 ⟨Nat.zero_le _, Nat.zero_le _⟩) hP hD hS hA (p_all _) (p_back _) (fun H locs hP hD hS => ?_)
    refine lv_istore_n (lv' := [(3, .int ((mZ (mrec r)) 9)), (0, .ref (o 0)), (1, .int 0), (2, .int b)]) hx hb dX6_gear_36 rfl hl (by decide) rfl (fun ls hl => ?_)
    refine lv_aload_n hx hb dX6_gear_37 rfl (lv_at hl 1 rfl) ?_
    refine lv_iload_n hx hb dX6_gear_38 rfl (lv_at hl 2 rfl) ?_
    refine lv_iconst (v := 1) hx hb dX6_gear_39 (by decide) ?_
    refine lv_iload_n hx hb dX6_gear_40 rfl (lv_at hl 3 rfl) ?_
    refine x_goV (wn := MW g o (mz (mrec r) (upd (mZ (mrec r)) 9 b))) (x_rV (As := [.int 0, .int 1, .int b]) X (c_X6_lays l g o (mrec r) 0 1 (by decide) (by decide) b  _) yf_X6_lays yi_X6_lays wM_X6_29 ⟨Nat.le_of_ble_eq_true rfl, Nat.le_of_ble_eq_true rfl⟩ hP hD (p_all _) 0 rfl rfl hl rfl rfl (Nat.le_of_ble_eq_true rfl) dX6_gear_41 ⟨Nat.zero_le _, Nat.zero_le _⟩) hP hD hS hA (p_all _) (p_back _) (fun H locs hP hD hS => ?_)
    refine lv_aload_n hx hb dX6_gear_44 rfl (lv_at hl 1 rfl) ?_
    refine lv_iload_n hx hb dX6_gear_45 rfl (lv_at hl 2 rfl) ?_
    refine lv_iconst (v := 2) hx hb dX6_gear_46 (by decide) ?_
    refine lv_iconst (v := 0) hx hb dX6_gear_47 (by decide) ?_
    refine x_goV (wn := MW g o (mz (mrec r) (upd (upd (mZ (mrec r)) 9 b) 10 0))) (x_rV (As := [.int 0, .int 2, .int 0]) X (c_X6_lays l g o (mz (mrec r) (upd (mZ (mrec r)) 9 b)) 0 2 (by decide) (by decide) 0  _) yf_X6_lays yi_X6_lays wM_X6_29 ⟨Nat.le_of_ble_eq_true rfl, Nat.le_of_ble_eq_true rfl⟩ hP hD (p_all _) 0 rfl rfl hl rfl rfl (Nat.le_of_ble_eq_true rfl) dX6_gear_48 ⟨Nat.zero_le _, Nat.zero_le _⟩) hP hD hS hA (p_all _) (p_back _) (fun H locs hP hD hS => ?_)
    refine lv_iload_n hx hb dX6_gear_51 rfl (lv_at hl 0 rfl) ?_
    have E : (MW g o (mz (mrec r) (upd (upd (mZ (mrec r)) 9 b) 10 0)) : va_W) = MW g o (mGear r 0 b).2 := by (simp only [mGear, p_tn0, if_neg c_2, if_neg (show ¬ isf 0 = 0 from by decide)]) <;> rfl
    exact x_iret X hr hlocks (pw E hP) (dw E hD) hS (by (simp only [mGear, p_tn0, if_neg c_2, if_neg (show ¬ isf 0 = 0 from by decide)]) <;> rfl) dX6_gear_52
  · refine lv_sipush (v := (-1002)) hx hb dX6_gear_22 (by decide) ?_
    have E : (MW g o r : va_W) = MW g o (mGear r 0 b).2 := by (simp only [mGear, p_tn0, if_pos c_2, if_neg (show ¬ isf 0 = 0 from by decide)]) <;> rfl
    exact x_iret X hr hlocks (pw E hP) (dw E hD) hS (by (simp only [mGear, p_tn0, if_pos c_2, if_neg (show ¬ isf 0 = 0 from by decide)]) <;> rfl) dX6_gear_25

set_option maxHeartbeats 4000000 in
set_option maxRecDepth 100000 in
theorem c_X6_gear_1 (l : Launch) (g : wG) (o : Nat → Nat) (r : MS) (hm5 : mM r ≤ 5) (b : Int32) : CtI l g 2 yX6_gear cX6_gear 4 (some .int) [.ref (o 0), .int 1, .int b] (MW g o r) ((mGear r 1 b).1) (MW g o (mGear r 1 b).2) := by
  intro sz
  refine x_enter (Qc := fun A => QI g A ((mGear r 1 b).1) (MW g o (mGear r 1 b).2)) (by decide) (Nat.le_of_ble_eq_true rfl) ?_
  intro p e s m args below meth c X hr hlocks A hA hP hD hS ls hl
  obtain ⟨⟨hx, hb, hml, hown, hts⟩, hK, hN⟩ := id X
  have hl : lv_has ls 4 [(0, .ref (o 0)), (1, .int 1), (2, .int b)] := hl
  refine lv_iload_n hx hb dX6_gear_0 rfl (lv_at hl 1 rfl) ?_
  refine x_goI (wn := MW g o r) (x_rS (As := [.int 1]) X (c_X6_isFace l g 1 _) yf_X6_isFace ys_X6_isFace wM_X6_52 ⟨Nat.le_of_ble_eq_true rfl, Nat.le_of_ble_eq_true rfl⟩ hP hD (p_none _) hl rfl rfl (Nat.le_of_ble_eq_true rfl) dX6_gear_1 ⟨Nat.zero_le _, Nat.zero_le _⟩) hP hD hS hA (p_none _) (p_noneB _) (fun H locs hP hD hS => ?_)
  refine lv_if_ne (tgt := 11) hx hb dX6_gear_4 (by decide) (fun c_1 => ?_) (fun q9 => absurd (show (isf 1) = 0 from q9) (show ¬ (isf 1) = 0 from (by decide)))
  refine lv_iload_n hx hb dX6_gear_11 rfl (lv_at hl 2 rfl) ?_
  refine lv_bipush (v := 10) hx hb dX6_gear_12 (by decide) ?_
  refine lv_bipush (v := 60) hx hb dX6_gear_14 (by decide) ?_
  refine x_goI (wn := MW g o r) (x_rS (As := [.int b, .int 10, .int 60]) X (c_X6_in l g b 10 60 _) yf_X6_in ys_X6_in wM_X6_33 ⟨Nat.le_of_ble_eq_true rfl, Nat.le_of_ble_eq_true rfl⟩ hP hD (p_none _) hl rfl rfl (Nat.le_of_ble_eq_true rfl) dX6_gear_16 ⟨Nat.zero_le _, Nat.zero_le _⟩) hP hD hS hA (p_none _) (p_noneB _) (fun H locs hP hD hS => ?_)
  refine lv_if_ne (tgt := 26) hx hb dX6_gear_19 (by decide) (fun (c_2 : ¬ (isw b 10 60) = 0) => ?_) (fun (c_2 : (isw b 10 60) = 0) => ?_)
  · refine lv_aload_n hx hb dX6_gear_26 rfl (lv_at hl 0 rfl) ?_
    refine x_goV (wn := MW g o (mrec r)) (x_rV (As := []) X (c_X6_record l g o r hm5  _) yf_X6_record yi_X6_record wM_X6_45 ⟨Nat.le_of_ble_eq_true rfl, Nat.le_of_ble_eq_true rfl⟩ hP hD (p_all _) 0 rfl rfl hl rfl rfl (Nat.le_of_ble_eq_true rfl) dX6_gear_27 ⟨Nat.zero_le _, Nat.zero_le _⟩) hP hD hS hA (p_all _) (p_back _) (fun H locs hP hD hS => ?_)
    refine lv_aload_n hx hb dX6_gear_30 rfl (lv_at hl 0 rfl) ?_
    refine lv_iload_n hx hb dX6_gear_31 rfl (lv_at hl 1 rfl) ?_
    refine lv_iconst (v := 1) hx hb dX6_gear_32 (by decide) ?_
    refine x_goI (wn := MW g o (mrec r)) (x_rV (As := [.int 1, .int 1]) X (c_X6_of l g o (mrec r) 1 1 (by decide) (by decide)  _) yf_X6_of yi_X6_of wM_X6_56 ⟨Nat.le_of_ble_eq_true rfl, Nat.le_of_ble_eq_true rfl⟩ hP hD (p_all _) 0 rfl rfl hl rfl rfl (Nat.le_of_ble_eq_true rfl) dX6_gear_33 ⟨Nat.zero_le _, Nat.zero_le _⟩) hP hD hS hA (p_all _) (p_back _) (fun H locs hP hD hS => ?_)
    refine lv_istore_n (lv' := [(3, .int ((mZ (mrec r)) 16)), (0, .ref (o 0)), (1, .int 1), (2, .int b)]) hx hb dX6_gear_36 rfl hl (by decide) rfl (fun ls hl => ?_)
    refine lv_aload_n hx hb dX6_gear_37 rfl (lv_at hl 1 rfl) ?_
    refine lv_iload_n hx hb dX6_gear_38 rfl (lv_at hl 2 rfl) ?_
    refine lv_iconst (v := 1) hx hb dX6_gear_39 (by decide) ?_
    refine lv_iload_n hx hb dX6_gear_40 rfl (lv_at hl 3 rfl) ?_
    refine x_goV (wn := MW g o (mz (mrec r) (upd (mZ (mrec r)) 16 b))) (x_rV (As := [.int 1, .int 1, .int b]) X (c_X6_lays l g o (mrec r) 1 1 (by decide) (by decide) b  _) yf_X6_lays yi_X6_lays wM_X6_29 ⟨Nat.le_of_ble_eq_true rfl, Nat.le_of_ble_eq_true rfl⟩ hP hD (p_all _) 0 rfl rfl hl rfl rfl (Nat.le_of_ble_eq_true rfl) dX6_gear_41 ⟨Nat.zero_le _, Nat.zero_le _⟩) hP hD hS hA (p_all _) (p_back _) (fun H locs hP hD hS => ?_)
    refine lv_aload_n hx hb dX6_gear_44 rfl (lv_at hl 1 rfl) ?_
    refine lv_iload_n hx hb dX6_gear_45 rfl (lv_at hl 2 rfl) ?_
    refine lv_iconst (v := 2) hx hb dX6_gear_46 (by decide) ?_
    refine lv_iconst (v := 0) hx hb dX6_gear_47 (by decide) ?_
    refine x_goV (wn := MW g o (mz (mrec r) (upd (upd (mZ (mrec r)) 16 b) 17 0))) (x_rV (As := [.int 1, .int 2, .int 0]) X (c_X6_lays l g o (mz (mrec r) (upd (mZ (mrec r)) 16 b)) 1 2 (by decide) (by decide) 0  _) yf_X6_lays yi_X6_lays wM_X6_29 ⟨Nat.le_of_ble_eq_true rfl, Nat.le_of_ble_eq_true rfl⟩ hP hD (p_all _) 0 rfl rfl hl rfl rfl (Nat.le_of_ble_eq_true rfl) dX6_gear_48 ⟨Nat.zero_le _, Nat.zero_le _⟩) hP hD hS hA (p_all _) (p_back _) (fun H locs hP hD hS => ?_)
    refine lv_iload_n hx hb dX6_gear_51 rfl (lv_at hl 0 rfl) ?_
    have E : (MW g o (mz (mrec r) (upd (upd (mZ (mrec r)) 16 b) 17 0)) : va_W) = MW g o (mGear r 1 b).2 := by (simp only [mGear, p_tn1, if_neg c_2, if_neg (show ¬ isf 1 = 0 from by decide)]) <;> rfl
    exact x_iret X hr hlocks (pw E hP) (dw E hD) hS (by (simp only [mGear, p_tn1, if_neg c_2, if_neg (show ¬ isf 1 = 0 from by decide)]) <;> rfl) dX6_gear_52
  · refine lv_sipush (v := (-1002)) hx hb dX6_gear_22 (by decide) ?_
    have E : (MW g o r : va_W) = MW g o (mGear r 1 b).2 := by (simp only [mGear, p_tn1, if_pos c_2, if_neg (show ¬ isf 1 = 0 from by decide)]) <;> rfl
    exact x_iret X hr hlocks (pw E hP) (dw E hD) hS (by (simp only [mGear, p_tn1, if_pos c_2, if_neg (show ¬ isf 1 = 0 from by decide)]) <;> rfl) dX6_gear_25

set_option maxHeartbeats 4000000 in
set_option maxRecDepth 100000 in
theorem c_X6_gear_2 (l : Launch) (g : wG) (o : Nat → Nat) (r : MS) (hm5 : mM r ≤ 5) (b : Int32) : CtI l g 2 yX6_gear cX6_gear 4 (some .int) [.ref (o 0), .int 2, .int b] (MW g o r) ((mGear r 2 b).1) (MW g o (mGear r 2 b).2) := by
  intro sz
  refine x_enter (Qc := fun A => QI g A ((mGear r 2 b).1) (MW g o (mGear r 2 b).2)) (by decide) (Nat.le_of_ble_eq_true rfl) ?_
  intro p e s m args below meth c X hr hlocks A hA hP hD hS ls hl
  obtain ⟨⟨hx, hb, hml, hown, hts⟩, hK, hN⟩ := id X
  have hl : lv_has ls 4 [(0, .ref (o 0)), (1, .int 2), (2, .int b)] := hl
  refine lv_iload_n hx hb dX6_gear_0 rfl (lv_at hl 1 rfl) ?_
  refine x_goI (wn := MW g o r) (x_rS (As := [.int 2]) X (c_X6_isFace l g 2 _) yf_X6_isFace ys_X6_isFace wM_X6_52 ⟨Nat.le_of_ble_eq_true rfl, Nat.le_of_ble_eq_true rfl⟩ hP hD (p_none _) hl rfl rfl (Nat.le_of_ble_eq_true rfl) dX6_gear_1 ⟨Nat.zero_le _, Nat.zero_le _⟩) hP hD hS hA (p_none _) (p_noneB _) (fun H locs hP hD hS => ?_)
  refine lv_if_ne (tgt := 11) hx hb dX6_gear_4 (by decide) (fun c_1 => ?_) (fun q9 => absurd (show (isf 2) = 0 from q9) (show ¬ (isf 2) = 0 from (by decide)))
  refine lv_iload_n hx hb dX6_gear_11 rfl (lv_at hl 2 rfl) ?_
  refine lv_bipush (v := 10) hx hb dX6_gear_12 (by decide) ?_
  refine lv_bipush (v := 60) hx hb dX6_gear_14 (by decide) ?_
  refine x_goI (wn := MW g o r) (x_rS (As := [.int b, .int 10, .int 60]) X (c_X6_in l g b 10 60 _) yf_X6_in ys_X6_in wM_X6_33 ⟨Nat.le_of_ble_eq_true rfl, Nat.le_of_ble_eq_true rfl⟩ hP hD (p_none _) hl rfl rfl (Nat.le_of_ble_eq_true rfl) dX6_gear_16 ⟨Nat.zero_le _, Nat.zero_le _⟩) hP hD hS hA (p_none _) (p_noneB _) (fun H locs hP hD hS => ?_)
  refine lv_if_ne (tgt := 26) hx hb dX6_gear_19 (by decide) (fun (c_2 : ¬ (isw b 10 60) = 0) => ?_) (fun (c_2 : (isw b 10 60) = 0) => ?_)
  · refine lv_aload_n hx hb dX6_gear_26 rfl (lv_at hl 0 rfl) ?_
    refine x_goV (wn := MW g o (mrec r)) (x_rV (As := []) X (c_X6_record l g o r hm5  _) yf_X6_record yi_X6_record wM_X6_45 ⟨Nat.le_of_ble_eq_true rfl, Nat.le_of_ble_eq_true rfl⟩ hP hD (p_all _) 0 rfl rfl hl rfl rfl (Nat.le_of_ble_eq_true rfl) dX6_gear_27 ⟨Nat.zero_le _, Nat.zero_le _⟩) hP hD hS hA (p_all _) (p_back _) (fun H locs hP hD hS => ?_)
    refine lv_aload_n hx hb dX6_gear_30 rfl (lv_at hl 0 rfl) ?_
    refine lv_iload_n hx hb dX6_gear_31 rfl (lv_at hl 1 rfl) ?_
    refine lv_iconst (v := 1) hx hb dX6_gear_32 (by decide) ?_
    refine x_goI (wn := MW g o (mrec r)) (x_rV (As := [.int 2, .int 1]) X (c_X6_of l g o (mrec r) 2 1 (by decide) (by decide)  _) yf_X6_of yi_X6_of wM_X6_56 ⟨Nat.le_of_ble_eq_true rfl, Nat.le_of_ble_eq_true rfl⟩ hP hD (p_all _) 0 rfl rfl hl rfl rfl (Nat.le_of_ble_eq_true rfl) dX6_gear_33 ⟨Nat.zero_le _, Nat.zero_le _⟩) hP hD hS hA (p_all _) (p_back _) (fun H locs hP hD hS => ?_)
    refine lv_istore_n (lv' := [(3, .int ((mZ (mrec r)) 23)), (0, .ref (o 0)), (1, .int 2), (2, .int b)]) hx hb dX6_gear_36 rfl hl (by decide) rfl (fun ls hl => ?_)
    refine lv_aload_n hx hb dX6_gear_37 rfl (lv_at hl 1 rfl) ?_
    refine lv_iload_n hx hb dX6_gear_38 rfl (lv_at hl 2 rfl) ?_
    refine lv_iconst (v := 1) hx hb dX6_gear_39 (by decide) ?_
    refine lv_iload_n hx hb dX6_gear_40 rfl (lv_at hl 3 rfl) ?_
    refine x_goV (wn := MW g o (mz (mrec r) (upd (mZ (mrec r)) 23 b))) (x_rV (As := [.int 2, .int 1, .int b]) X (c_X6_lays l g o (mrec r) 2 1 (by decide) (by decide) b  _) yf_X6_lays yi_X6_lays wM_X6_29 ⟨Nat.le_of_ble_eq_true rfl, Nat.le_of_ble_eq_true rfl⟩ hP hD (p_all _) 0 rfl rfl hl rfl rfl (Nat.le_of_ble_eq_true rfl) dX6_gear_41 ⟨Nat.zero_le _, Nat.zero_le _⟩) hP hD hS hA (p_all _) (p_back _) (fun H locs hP hD hS => ?_)
    refine lv_aload_n hx hb dX6_gear_44 rfl (lv_at hl 1 rfl) ?_
    refine lv_iload_n hx hb dX6_gear_45 rfl (lv_at hl 2 rfl) ?_
    refine lv_iconst (v := 2) hx hb dX6_gear_46 (by decide) ?_
    refine lv_iconst (v := 0) hx hb dX6_gear_47 (by decide) ?_
    refine x_goV (wn := MW g o (mz (mrec r) (upd (upd (mZ (mrec r)) 23 b) 24 0))) (x_rV (As := [.int 2, .int 2, .int 0]) X (c_X6_lays l g o (mz (mrec r) (upd (mZ (mrec r)) 23 b)) 2 2 (by decide) (by decide) 0  _) yf_X6_lays yi_X6_lays wM_X6_29 ⟨Nat.le_of_ble_eq_true rfl, Nat.le_of_ble_eq_true rfl⟩ hP hD (p_all _) 0 rfl rfl hl rfl rfl (Nat.le_of_ble_eq_true rfl) dX6_gear_48 ⟨Nat.zero_le _, Nat.zero_le _⟩) hP hD hS hA (p_all _) (p_back _) (fun H locs hP hD hS => ?_)
    refine lv_iload_n hx hb dX6_gear_51 rfl (lv_at hl 0 rfl) ?_
    have E : (MW g o (mz (mrec r) (upd (upd (mZ (mrec r)) 23 b) 24 0)) : va_W) = MW g o (mGear r 2 b).2 := by (simp only [mGear, p_tn2, if_neg c_2, if_neg (show ¬ isf 2 = 0 from by decide)]) <;> rfl
    exact x_iret X hr hlocks (pw E hP) (dw E hD) hS (by (simp only [mGear, p_tn2, if_neg c_2, if_neg (show ¬ isf 2 = 0 from by decide)]) <;> rfl) dX6_gear_52
  · refine lv_sipush (v := (-1002)) hx hb dX6_gear_22 (by decide) ?_
    have E : (MW g o r : va_W) = MW g o (mGear r 2 b).2 := by (simp only [mGear, p_tn2, if_pos c_2, if_neg (show ¬ isf 2 = 0 from by decide)]) <;> rfl
    exact x_iret X hr hlocks (pw E hP) (dw E hD) hS (by (simp only [mGear, p_tn2, if_pos c_2, if_neg (show ¬ isf 2 = 0 from by decide)]) <;> rfl) dX6_gear_25

set_option maxHeartbeats 4000000 in
set_option maxRecDepth 100000 in
theorem c_X6_gear_3 (l : Launch) (g : wG) (o : Nat → Nat) (r : MS) (hm5 : mM r ≤ 5) (b : Int32) : CtI l g 2 yX6_gear cX6_gear 4 (some .int) [.ref (o 0), .int 3, .int b] (MW g o r) ((mGear r 3 b).1) (MW g o (mGear r 3 b).2) := by
  intro sz
  refine x_enter (Qc := fun A => QI g A ((mGear r 3 b).1) (MW g o (mGear r 3 b).2)) (by decide) (Nat.le_of_ble_eq_true rfl) ?_
  intro p e s m args below meth c X hr hlocks A hA hP hD hS ls hl
  obtain ⟨⟨hx, hb, hml, hown, hts⟩, hK, hN⟩ := id X
  have hl : lv_has ls 4 [(0, .ref (o 0)), (1, .int 3), (2, .int b)] := hl
  refine lv_iload_n hx hb dX6_gear_0 rfl (lv_at hl 1 rfl) ?_
  refine x_goI (wn := MW g o r) (x_rS (As := [.int 3]) X (c_X6_isFace l g 3 _) yf_X6_isFace ys_X6_isFace wM_X6_52 ⟨Nat.le_of_ble_eq_true rfl, Nat.le_of_ble_eq_true rfl⟩ hP hD (p_none _) hl rfl rfl (Nat.le_of_ble_eq_true rfl) dX6_gear_1 ⟨Nat.zero_le _, Nat.zero_le _⟩) hP hD hS hA (p_none _) (p_noneB _) (fun H locs hP hD hS => ?_)
  refine lv_if_ne (tgt := 11) hx hb dX6_gear_4 (by decide) (fun c_1 => ?_) (fun q9 => absurd (show (isf 3) = 0 from q9) (show ¬ (isf 3) = 0 from (by decide)))
  refine lv_iload_n hx hb dX6_gear_11 rfl (lv_at hl 2 rfl) ?_
  refine lv_bipush (v := 10) hx hb dX6_gear_12 (by decide) ?_
  refine lv_bipush (v := 60) hx hb dX6_gear_14 (by decide) ?_
  refine x_goI (wn := MW g o r) (x_rS (As := [.int b, .int 10, .int 60]) X (c_X6_in l g b 10 60 _) yf_X6_in ys_X6_in wM_X6_33 ⟨Nat.le_of_ble_eq_true rfl, Nat.le_of_ble_eq_true rfl⟩ hP hD (p_none _) hl rfl rfl (Nat.le_of_ble_eq_true rfl) dX6_gear_16 ⟨Nat.zero_le _, Nat.zero_le _⟩) hP hD hS hA (p_none _) (p_noneB _) (fun H locs hP hD hS => ?_)
  refine lv_if_ne (tgt := 26) hx hb dX6_gear_19 (by decide) (fun (c_2 : ¬ (isw b 10 60) = 0) => ?_) (fun (c_2 : (isw b 10 60) = 0) => ?_)
  · refine lv_aload_n hx hb dX6_gear_26 rfl (lv_at hl 0 rfl) ?_
    refine x_goV (wn := MW g o (mrec r)) (x_rV (As := []) X (c_X6_record l g o r hm5  _) yf_X6_record yi_X6_record wM_X6_45 ⟨Nat.le_of_ble_eq_true rfl, Nat.le_of_ble_eq_true rfl⟩ hP hD (p_all _) 0 rfl rfl hl rfl rfl (Nat.le_of_ble_eq_true rfl) dX6_gear_27 ⟨Nat.zero_le _, Nat.zero_le _⟩) hP hD hS hA (p_all _) (p_back _) (fun H locs hP hD hS => ?_)
    refine lv_aload_n hx hb dX6_gear_30 rfl (lv_at hl 0 rfl) ?_
    refine lv_iload_n hx hb dX6_gear_31 rfl (lv_at hl 1 rfl) ?_
    refine lv_iconst (v := 1) hx hb dX6_gear_32 (by decide) ?_
    refine x_goI (wn := MW g o (mrec r)) (x_rV (As := [.int 3, .int 1]) X (c_X6_of l g o (mrec r) 3 1 (by decide) (by decide)  _) yf_X6_of yi_X6_of wM_X6_56 ⟨Nat.le_of_ble_eq_true rfl, Nat.le_of_ble_eq_true rfl⟩ hP hD (p_all _) 0 rfl rfl hl rfl rfl (Nat.le_of_ble_eq_true rfl) dX6_gear_33 ⟨Nat.zero_le _, Nat.zero_le _⟩) hP hD hS hA (p_all _) (p_back _) (fun H locs hP hD hS => ?_)
    refine lv_istore_n (lv' := [(3, .int ((mZ (mrec r)) 30)), (0, .ref (o 0)), (1, .int 3), (2, .int b)]) hx hb dX6_gear_36 rfl hl (by decide) rfl (fun ls hl => ?_)
    refine lv_aload_n hx hb dX6_gear_37 rfl (lv_at hl 1 rfl) ?_
    refine lv_iload_n hx hb dX6_gear_38 rfl (lv_at hl 2 rfl) ?_
    refine lv_iconst (v := 1) hx hb dX6_gear_39 (by decide) ?_
    refine lv_iload_n hx hb dX6_gear_40 rfl (lv_at hl 3 rfl) ?_
    refine x_goV (wn := MW g o (mz (mrec r) (upd (mZ (mrec r)) 30 b))) (x_rV (As := [.int 3, .int 1, .int b]) X (c_X6_lays l g o (mrec r) 3 1 (by decide) (by decide) b  _) yf_X6_lays yi_X6_lays wM_X6_29 ⟨Nat.le_of_ble_eq_true rfl, Nat.le_of_ble_eq_true rfl⟩ hP hD (p_all _) 0 rfl rfl hl rfl rfl (Nat.le_of_ble_eq_true rfl) dX6_gear_41 ⟨Nat.zero_le _, Nat.zero_le _⟩) hP hD hS hA (p_all _) (p_back _) (fun H locs hP hD hS => ?_)
    refine lv_aload_n hx hb dX6_gear_44 rfl (lv_at hl 1 rfl) ?_
    refine lv_iload_n hx hb dX6_gear_45 rfl (lv_at hl 2 rfl) ?_
    refine lv_iconst (v := 2) hx hb dX6_gear_46 (by decide) ?_
    refine lv_iconst (v := 0) hx hb dX6_gear_47 (by decide) ?_
    refine x_goV (wn := MW g o (mz (mrec r) (upd (upd (mZ (mrec r)) 30 b) 31 0))) (x_rV (As := [.int 3, .int 2, .int 0]) X (c_X6_lays l g o (mz (mrec r) (upd (mZ (mrec r)) 30 b)) 3 2 (by decide) (by decide) 0  _) yf_X6_lays yi_X6_lays wM_X6_29 ⟨Nat.le_of_ble_eq_true rfl, Nat.le_of_ble_eq_true rfl⟩ hP hD (p_all _) 0 rfl rfl hl rfl rfl (Nat.le_of_ble_eq_true rfl) dX6_gear_48 ⟨Nat.zero_le _, Nat.zero_le _⟩) hP hD hS hA (p_all _) (p_back _) (fun H locs hP hD hS => ?_)
    refine lv_iload_n hx hb dX6_gear_51 rfl (lv_at hl 0 rfl) ?_
    have E : (MW g o (mz (mrec r) (upd (upd (mZ (mrec r)) 30 b) 31 0)) : va_W) = MW g o (mGear r 3 b).2 := by (simp only [mGear, p_tn3, if_neg c_2, if_neg (show ¬ isf 3 = 0 from by decide)]) <;> rfl
    exact x_iret X hr hlocks (pw E hP) (dw E hD) hS (by (simp only [mGear, p_tn3, if_neg c_2, if_neg (show ¬ isf 3 = 0 from by decide)]) <;> rfl) dX6_gear_52
  · refine lv_sipush (v := (-1002)) hx hb dX6_gear_22 (by decide) ?_
    have E : (MW g o r : va_W) = MW g o (mGear r 3 b).2 := by (simp only [mGear, p_tn3, if_pos c_2, if_neg (show ¬ isf 3 = 0 from by decide)]) <;> rfl
    exact x_iret X hr hlocks (pw E hP) (dw E hD) hS (by (simp only [mGear, p_tn3, if_pos c_2, if_neg (show ¬ isf 3 = 0 from by decide)]) <;> rfl) dX6_gear_25

theorem c_X6_gear (l : Launch) (g : wG) (o : Nat → Nat) (r : MS) (hm5 : mM r ≤ 5) (a b : Int32) : CtI l g 2 yX6_gear cX6_gear 4 (some .int) [.ref (o 0), .int a, .int b] (MW g o r) ((mGear r a b).1) (MW g o (mGear r a b).2) := by
  by_cases hi : isf a = 0
  · exact c_X6_gear_e l g o r a b hi
  · obtain ⟨k, hk, rfl⟩ := isw_nI (n := 3) (by decide) hi
    rcases (show k = 0 ∨ k = 1 ∨ k = 2 ∨ k = 3 by omega) with rfl | rfl | rfl | rfl
    · exact c_X6_gear_0 l g o r hm5 b
    · exact c_X6_gear_1 l g o r hm5 b
    · exact c_X6_gear_2 l g o r hm5 b
    · exact c_X6_gear_3 l g o r hm5 b
set_option maxHeartbeats 4000000 in
set_option maxRecDepth 100000 in
theorem c_X6_oil_e (l : Launch) (g : wG) (o : Nat → Nat) (r : MS) (a : Int32) (hi : isf a = 0) : CtI l g 2 yX6_oil cX6_oil 2 (some .int) [.ref (o 0), .int a] (MW g o r) ((mOil r a).1) (MW g o (mOil r a).2) := by
  intro sz
  refine x_enter (Qc := fun A => QI g A ((mOil r a).1) (MW g o (mOil r a).2)) (by decide) (Nat.le_of_ble_eq_true rfl) ?_
  intro p e s m args below meth c X hr hlocks A hA hP hD hS ls hl
  obtain ⟨⟨hx, hb, hml, hown, hts⟩, hK, hN⟩ := id X
  have hl : lv_has ls 2 [(0, .ref (o 0)), (1, .int a)] := hl
  refine lv_iload_n hx hb dX6_oil_0 rfl (lv_at hl 1 rfl) ?_
  refine x_goI (wn := MW g o r) (x_rS (As := [.int a]) X (c_X6_isFace l g a _) yf_X6_isFace ys_X6_isFace wM_X6_52 ⟨Nat.le_of_ble_eq_true rfl, Nat.le_of_ble_eq_true rfl⟩ hP hD (p_none _) hl rfl rfl (Nat.le_of_ble_eq_true rfl) dX6_oil_1 ⟨Nat.zero_le _, Nat.zero_le _⟩) hP hD hS hA (p_none _) (p_noneB _) (fun H locs hP hD hS => ?_)
  refine lv_if_ne (tgt := 11) hx hb dX6_oil_4 (by decide) (fun q9 => absurd (show (isf a) = 0 from hi) q9) (fun c_1 => ?_)
  refine lv_sipush (v := (-1001)) hx hb dX6_oil_7 (by decide) ?_
  have E : (MW g o r : va_W) = MW g o (mOil r a).2 := by (simp only [mOil, if_pos hi]) <;> rfl
  exact x_iret X hr hlocks (pw E hP) (dw E hD) hS (by (simp only [mOil, if_pos hi]) <;> rfl) dX6_oil_10

set_option maxHeartbeats 4000000 in
set_option maxRecDepth 100000 in
theorem c_X6_oil_0 (l : Launch) (g : wG) (o : Nat → Nat) (r : MS) (hm5 : mM r ≤ 5) : CtI l g 2 yX6_oil cX6_oil 2 (some .int) [.ref (o 0), .int 0] (MW g o r) ((mOil r 0).1) (MW g o (mOil r 0).2) := by
  intro sz
  refine x_enter (Qc := fun A => QI g A ((mOil r 0).1) (MW g o (mOil r 0).2)) (by decide) (Nat.le_of_ble_eq_true rfl) ?_
  intro p e s m args below meth c X hr hlocks A hA hP hD hS ls hl
  obtain ⟨⟨hx, hb, hml, hown, hts⟩, hK, hN⟩ := id X
  have hl : lv_has ls 2 [(0, .ref (o 0)), (1, .int 0)] := hl
  refine lv_iload_n hx hb dX6_oil_0 rfl (lv_at hl 1 rfl) ?_
  refine x_goI (wn := MW g o r) (x_rS (As := [.int 0]) X (c_X6_isFace l g 0 _) yf_X6_isFace ys_X6_isFace wM_X6_52 ⟨Nat.le_of_ble_eq_true rfl, Nat.le_of_ble_eq_true rfl⟩ hP hD (p_none _) hl rfl rfl (Nat.le_of_ble_eq_true rfl) dX6_oil_1 ⟨Nat.zero_le _, Nat.zero_le _⟩) hP hD hS hA (p_none _) (p_noneB _) (fun H locs hP hD hS => ?_)
  refine lv_if_ne (tgt := 11) hx hb dX6_oil_4 (by decide) (fun c_1 => ?_) (fun q9 => absurd (show (isf 0) = 0 from q9) (show ¬ (isf 0) = 0 from (by decide)))
  refine lv_aload_n hx hb dX6_oil_11 rfl (lv_at hl 0 rfl) ?_
  refine x_goV (wn := MW g o (mrec r)) (x_rV (As := []) X (c_X6_record l g o r hm5  _) yf_X6_record yi_X6_record wM_X6_45 ⟨Nat.le_of_ble_eq_true rfl, Nat.le_of_ble_eq_true rfl⟩ hP hD (p_all _) 0 rfl rfl hl rfl rfl (Nat.le_of_ble_eq_true rfl) dX6_oil_12 ⟨Nat.zero_le _, Nat.zero_le _⟩) hP hD hS hA (p_all _) (p_back _) (fun H locs hP hD hS => ?_)
  refine lv_aload_n hx hb dX6_oil_15 rfl (lv_at hl 0 rfl) ?_
  refine lv_iload_n hx hb dX6_oil_16 rfl (lv_at hl 1 rfl) ?_
  refine x_goI (wn := MW g o (mz (mrec r) (oilM 8 (mZ (mrec r))))) (x_rV (As := [.int 0]) X (c_X6_oils_0 l g o (mrec r)   _) yf_X6_oils yi_X6_oils wM_X6_60 ⟨Nat.le_of_ble_eq_true rfl, Nat.le_of_ble_eq_true rfl⟩ hP hD (p_all _) 0 rfl rfl hl rfl rfl (Nat.le_of_ble_eq_true rfl) dX6_oil_17 ⟨Nat.zero_le _, Nat.zero_le _⟩) hP hD hS hA (p_all _) (p_back _) (fun H locs hP hD hS => ?_)
  have E : (MW g o (mz (mrec r) (oilM 8 (mZ (mrec r)))) : va_W) = MW g o (mOil r 0).2 := by (simp only [mOil, p_tn0, if_neg (show ¬ isf 0 = 0 from by decide)]) <;> rfl
  exact x_iret X hr hlocks (pw E hP) (dw E hD) hS (by (simp only [mOil, p_tn0, if_neg (show ¬ isf 0 = 0 from by decide)]) <;> rfl) dX6_oil_20

set_option maxHeartbeats 4000000 in
set_option maxRecDepth 100000 in
theorem c_X6_oil_1 (l : Launch) (g : wG) (o : Nat → Nat) (r : MS) (hm5 : mM r ≤ 5) : CtI l g 2 yX6_oil cX6_oil 2 (some .int) [.ref (o 0), .int 1] (MW g o r) ((mOil r 1).1) (MW g o (mOil r 1).2) := by
  intro sz
  refine x_enter (Qc := fun A => QI g A ((mOil r 1).1) (MW g o (mOil r 1).2)) (by decide) (Nat.le_of_ble_eq_true rfl) ?_
  intro p e s m args below meth c X hr hlocks A hA hP hD hS ls hl
  obtain ⟨⟨hx, hb, hml, hown, hts⟩, hK, hN⟩ := id X
  have hl : lv_has ls 2 [(0, .ref (o 0)), (1, .int 1)] := hl
  refine lv_iload_n hx hb dX6_oil_0 rfl (lv_at hl 1 rfl) ?_
  refine x_goI (wn := MW g o r) (x_rS (As := [.int 1]) X (c_X6_isFace l g 1 _) yf_X6_isFace ys_X6_isFace wM_X6_52 ⟨Nat.le_of_ble_eq_true rfl, Nat.le_of_ble_eq_true rfl⟩ hP hD (p_none _) hl rfl rfl (Nat.le_of_ble_eq_true rfl) dX6_oil_1 ⟨Nat.zero_le _, Nat.zero_le _⟩) hP hD hS hA (p_none _) (p_noneB _) (fun H locs hP hD hS => ?_)
  refine lv_if_ne (tgt := 11) hx hb dX6_oil_4 (by decide) (fun c_1 => ?_) (fun q9 => absurd (show (isf 1) = 0 from q9) (show ¬ (isf 1) = 0 from (by decide)))
  refine lv_aload_n hx hb dX6_oil_11 rfl (lv_at hl 0 rfl) ?_
  refine x_goV (wn := MW g o (mrec r)) (x_rV (As := []) X (c_X6_record l g o r hm5  _) yf_X6_record yi_X6_record wM_X6_45 ⟨Nat.le_of_ble_eq_true rfl, Nat.le_of_ble_eq_true rfl⟩ hP hD (p_all _) 0 rfl rfl hl rfl rfl (Nat.le_of_ble_eq_true rfl) dX6_oil_12 ⟨Nat.zero_le _, Nat.zero_le _⟩) hP hD hS hA (p_all _) (p_back _) (fun H locs hP hD hS => ?_)
  refine lv_aload_n hx hb dX6_oil_15 rfl (lv_at hl 0 rfl) ?_
  refine lv_iload_n hx hb dX6_oil_16 rfl (lv_at hl 1 rfl) ?_
  refine x_goI (wn := MW g o (mz (mrec r) (oilM 15 (mZ (mrec r))))) (x_rV (As := [.int 1]) X (c_X6_oils_1 l g o (mrec r)   _) yf_X6_oils yi_X6_oils wM_X6_60 ⟨Nat.le_of_ble_eq_true rfl, Nat.le_of_ble_eq_true rfl⟩ hP hD (p_all _) 0 rfl rfl hl rfl rfl (Nat.le_of_ble_eq_true rfl) dX6_oil_17 ⟨Nat.zero_le _, Nat.zero_le _⟩) hP hD hS hA (p_all _) (p_back _) (fun H locs hP hD hS => ?_)
  have E : (MW g o (mz (mrec r) (oilM 15 (mZ (mrec r)))) : va_W) = MW g o (mOil r 1).2 := by (simp only [mOil, p_tn1, if_neg (show ¬ isf 1 = 0 from by decide)]) <;> rfl
  exact x_iret X hr hlocks (pw E hP) (dw E hD) hS (by (simp only [mOil, p_tn1, if_neg (show ¬ isf 1 = 0 from by decide)]) <;> rfl) dX6_oil_20

set_option maxHeartbeats 4000000 in
set_option maxRecDepth 100000 in
theorem c_X6_oil_2 (l : Launch) (g : wG) (o : Nat → Nat) (r : MS) (hm5 : mM r ≤ 5) : CtI l g 2 yX6_oil cX6_oil 2 (some .int) [.ref (o 0), .int 2] (MW g o r) ((mOil r 2).1) (MW g o (mOil r 2).2) := by
  intro sz
  refine x_enter (Qc := fun A => QI g A ((mOil r 2).1) (MW g o (mOil r 2).2)) (by decide) (Nat.le_of_ble_eq_true rfl) ?_
  intro p e s m args below meth c X hr hlocks A hA hP hD hS ls hl
  obtain ⟨⟨hx, hb, hml, hown, hts⟩, hK, hN⟩ := id X
  have hl : lv_has ls 2 [(0, .ref (o 0)), (1, .int 2)] := hl
  refine lv_iload_n hx hb dX6_oil_0 rfl (lv_at hl 1 rfl) ?_
  refine x_goI (wn := MW g o r) (x_rS (As := [.int 2]) X (c_X6_isFace l g 2 _) yf_X6_isFace ys_X6_isFace wM_X6_52 ⟨Nat.le_of_ble_eq_true rfl, Nat.le_of_ble_eq_true rfl⟩ hP hD (p_none _) hl rfl rfl (Nat.le_of_ble_eq_true rfl) dX6_oil_1 ⟨Nat.zero_le _, Nat.zero_le _⟩) hP hD hS hA (p_none _) (p_noneB _) (fun H locs hP hD hS => ?_)
  refine lv_if_ne (tgt := 11) hx hb dX6_oil_4 (by decide) (fun c_1 => ?_) (fun q9 => absurd (show (isf 2) = 0 from q9) (show ¬ (isf 2) = 0 from (by decide)))
  refine lv_aload_n hx hb dX6_oil_11 rfl (lv_at hl 0 rfl) ?_
  refine x_goV (wn := MW g o (mrec r)) (x_rV (As := []) X (c_X6_record l g o r hm5  _) yf_X6_record yi_X6_record wM_X6_45 ⟨Nat.le_of_ble_eq_true rfl, Nat.le_of_ble_eq_true rfl⟩ hP hD (p_all _) 0 rfl rfl hl rfl rfl (Nat.le_of_ble_eq_true rfl) dX6_oil_12 ⟨Nat.zero_le _, Nat.zero_le _⟩) hP hD hS hA (p_all _) (p_back _) (fun H locs hP hD hS => ?_)
  refine lv_aload_n hx hb dX6_oil_15 rfl (lv_at hl 0 rfl) ?_
  refine lv_iload_n hx hb dX6_oil_16 rfl (lv_at hl 1 rfl) ?_
  refine x_goI (wn := MW g o (mz (mrec r) (oilM 22 (mZ (mrec r))))) (x_rV (As := [.int 2]) X (c_X6_oils_2 l g o (mrec r)   _) yf_X6_oils yi_X6_oils wM_X6_60 ⟨Nat.le_of_ble_eq_true rfl, Nat.le_of_ble_eq_true rfl⟩ hP hD (p_all _) 0 rfl rfl hl rfl rfl (Nat.le_of_ble_eq_true rfl) dX6_oil_17 ⟨Nat.zero_le _, Nat.zero_le _⟩) hP hD hS hA (p_all _) (p_back _) (fun H locs hP hD hS => ?_)
  have E : (MW g o (mz (mrec r) (oilM 22 (mZ (mrec r)))) : va_W) = MW g o (mOil r 2).2 := by (simp only [mOil, p_tn2, if_neg (show ¬ isf 2 = 0 from by decide)]) <;> rfl
  exact x_iret X hr hlocks (pw E hP) (dw E hD) hS (by (simp only [mOil, p_tn2, if_neg (show ¬ isf 2 = 0 from by decide)]) <;> rfl) dX6_oil_20

set_option maxHeartbeats 4000000 in
set_option maxRecDepth 100000 in
theorem c_X6_oil_3 (l : Launch) (g : wG) (o : Nat → Nat) (r : MS) (hm5 : mM r ≤ 5) : CtI l g 2 yX6_oil cX6_oil 2 (some .int) [.ref (o 0), .int 3] (MW g o r) ((mOil r 3).1) (MW g o (mOil r 3).2) := by
  intro sz
  refine x_enter (Qc := fun A => QI g A ((mOil r 3).1) (MW g o (mOil r 3).2)) (by decide) (Nat.le_of_ble_eq_true rfl) ?_
  intro p e s m args below meth c X hr hlocks A hA hP hD hS ls hl
  obtain ⟨⟨hx, hb, hml, hown, hts⟩, hK, hN⟩ := id X
  have hl : lv_has ls 2 [(0, .ref (o 0)), (1, .int 3)] := hl
  refine lv_iload_n hx hb dX6_oil_0 rfl (lv_at hl 1 rfl) ?_
  refine x_goI (wn := MW g o r) (x_rS (As := [.int 3]) X (c_X6_isFace l g 3 _) yf_X6_isFace ys_X6_isFace wM_X6_52 ⟨Nat.le_of_ble_eq_true rfl, Nat.le_of_ble_eq_true rfl⟩ hP hD (p_none _) hl rfl rfl (Nat.le_of_ble_eq_true rfl) dX6_oil_1 ⟨Nat.zero_le _, Nat.zero_le _⟩) hP hD hS hA (p_none _) (p_noneB _) (fun H locs hP hD hS => ?_)
  refine lv_if_ne (tgt := 11) hx hb dX6_oil_4 (by decide) (fun c_1 => ?_) (fun q9 => absurd (show (isf 3) = 0 from q9) (show ¬ (isf 3) = 0 from (by decide)))
  refine lv_aload_n hx hb dX6_oil_11 rfl (lv_at hl 0 rfl) ?_
  refine x_goV (wn := MW g o (mrec r)) (x_rV (As := []) X (c_X6_record l g o r hm5  _) yf_X6_record yi_X6_record wM_X6_45 ⟨Nat.le_of_ble_eq_true rfl, Nat.le_of_ble_eq_true rfl⟩ hP hD (p_all _) 0 rfl rfl hl rfl rfl (Nat.le_of_ble_eq_true rfl) dX6_oil_12 ⟨Nat.zero_le _, Nat.zero_le _⟩) hP hD hS hA (p_all _) (p_back _) (fun H locs hP hD hS => ?_)
  refine lv_aload_n hx hb dX6_oil_15 rfl (lv_at hl 0 rfl) ?_
  refine lv_iload_n hx hb dX6_oil_16 rfl (lv_at hl 1 rfl) ?_
  refine x_goI (wn := MW g o (mz (mrec r) (oilM 29 (mZ (mrec r))))) (x_rV (As := [.int 3]) X (c_X6_oils_3 l g o (mrec r)   _) yf_X6_oils yi_X6_oils wM_X6_60 ⟨Nat.le_of_ble_eq_true rfl, Nat.le_of_ble_eq_true rfl⟩ hP hD (p_all _) 0 rfl rfl hl rfl rfl (Nat.le_of_ble_eq_true rfl) dX6_oil_17 ⟨Nat.zero_le _, Nat.zero_le _⟩) hP hD hS hA (p_all _) (p_back _) (fun H locs hP hD hS => ?_)
  have E : (MW g o (mz (mrec r) (oilM 29 (mZ (mrec r)))) : va_W) = MW g o (mOil r 3).2 := by (simp only [mOil, p_tn3, if_neg (show ¬ isf 3 = 0 from by decide)]) <;> rfl
  exact x_iret X hr hlocks (pw E hP) (dw E hD) hS (by (simp only [mOil, p_tn3, if_neg (show ¬ isf 3 = 0 from by decide)]) <;> rfl) dX6_oil_20

theorem c_X6_oil (l : Launch) (g : wG) (o : Nat → Nat) (r : MS) (hm5 : mM r ≤ 5) (a : Int32) : CtI l g 2 yX6_oil cX6_oil 2 (some .int) [.ref (o 0), .int a] (MW g o r) ((mOil r a).1) (MW g o (mOil r a).2) := by
  by_cases hi : isf a = 0
  · exact c_X6_oil_e l g o r a hi
  · obtain ⟨k, hk, rfl⟩ := isw_nI (n := 3) (by decide) hi
    rcases (show k = 0 ∨ k = 1 ∨ k = 2 ∨ k = 3 by omega) with rfl | rfl | rfl | rfl
    · exact c_X6_oil_0 l g o r hm5
    · exact c_X6_oil_1 l g o r hm5
    · exact c_X6_oil_2 l g o r hm5
    · exact c_X6_oil_3 l g o r hm5
set_option maxHeartbeats 4000000 in
set_option maxRecDepth 100000 in
theorem c_X6_dial_e (l : Launch) (g : wG) (o : Nat → Nat) (r : MS) (a b : Int32) (hi : isf a = 0) : CtI l g 2 yX6_dial cX6_dial 3 (some .int) [.ref (o 0), .int a, .int b] (MW g o r) ((mDial r a b).1) (MW g o (mDial r a b).2) := by
  intro sz
  refine x_enter (Qc := fun A => QI g A ((mDial r a b).1) (MW g o (mDial r a b).2)) (by decide) (Nat.le_of_ble_eq_true rfl) ?_
  intro p e s m args below meth c X hr hlocks A hA hP hD hS ls hl
  obtain ⟨⟨hx, hb, hml, hown, hts⟩, hK, hN⟩ := id X
  have hl : lv_has ls 3 [(0, .ref (o 0)), (1, .int a), (2, .int b)] := hl
  refine lv_iload_n hx hb dX6_dial_0 rfl (lv_at hl 1 rfl) ?_
  refine x_goI (wn := MW g o r) (x_rS (As := [.int a]) X (c_X6_isFace l g a _) yf_X6_isFace ys_X6_isFace wM_X6_52 ⟨Nat.le_of_ble_eq_true rfl, Nat.le_of_ble_eq_true rfl⟩ hP hD (p_none _) hl rfl rfl (Nat.le_of_ble_eq_true rfl) dX6_dial_1 ⟨Nat.zero_le _, Nat.zero_le _⟩) hP hD hS hA (p_none _) (p_noneB _) (fun H locs hP hD hS => ?_)
  refine lv_if_ne (tgt := 11) hx hb dX6_dial_4 (by decide) (fun q9 => absurd (show (isf a) = 0 from hi) q9) (fun c_1 => ?_)
  refine lv_sipush (v := (-1001)) hx hb dX6_dial_7 (by decide) ?_
  have E : (MW g o r : va_W) = MW g o (mDial r a b).2 := by (simp only [mDial, if_pos hi]) <;> rfl
  exact x_iret X hr hlocks (pw E hP) (dw E hD) hS (by (simp only [mDial, if_pos hi]) <;> rfl) dX6_dial_10

set_option maxHeartbeats 4000000 in
set_option maxRecDepth 100000 in
theorem c_X6_dial_0 (l : Launch) (g : wG) (o : Nat → Nat) (r : MS) (hm5 : mM r ≤ 5) (b : Int32) : CtI l g 2 yX6_dial cX6_dial 3 (some .int) [.ref (o 0), .int 0, .int b] (MW g o r) ((mDial r 0 b).1) (MW g o (mDial r 0 b).2) := by
  intro sz
  refine x_enter (Qc := fun A => QI g A ((mDial r 0 b).1) (MW g o (mDial r 0 b).2)) (by decide) (Nat.le_of_ble_eq_true rfl) ?_
  intro p e s m args below meth c X hr hlocks A hA hP hD hS ls hl
  obtain ⟨⟨hx, hb, hml, hown, hts⟩, hK, hN⟩ := id X
  have hl : lv_has ls 3 [(0, .ref (o 0)), (1, .int 0), (2, .int b)] := hl
  refine lv_iload_n hx hb dX6_dial_0 rfl (lv_at hl 1 rfl) ?_
  refine x_goI (wn := MW g o r) (x_rS (As := [.int 0]) X (c_X6_isFace l g 0 _) yf_X6_isFace ys_X6_isFace wM_X6_52 ⟨Nat.le_of_ble_eq_true rfl, Nat.le_of_ble_eq_true rfl⟩ hP hD (p_none _) hl rfl rfl (Nat.le_of_ble_eq_true rfl) dX6_dial_1 ⟨Nat.zero_le _, Nat.zero_le _⟩) hP hD hS hA (p_none _) (p_noneB _) (fun H locs hP hD hS => ?_)
  refine lv_if_ne (tgt := 11) hx hb dX6_dial_4 (by decide) (fun c_1 => ?_) (fun q9 => absurd (show (isf 0) = 0 from q9) (show ¬ (isf 0) = 0 from (by decide)))
  refine lv_iload_n hx hb dX6_dial_11 rfl (lv_at hl 2 rfl) ?_
  refine lv_iconst (v := 0) hx hb dX6_dial_12 (by decide) ?_
  refine lv_sipush (v := 719) hx hb dX6_dial_13 (by decide) ?_
  refine x_goI (wn := MW g o r) (x_rS (As := [.int b, .int 0, .int 719]) X (c_X6_in l g b 0 719 _) yf_X6_in ys_X6_in wM_X6_33 ⟨Nat.le_of_ble_eq_true rfl, Nat.le_of_ble_eq_true rfl⟩ hP hD (p_none _) hl rfl rfl (Nat.le_of_ble_eq_true rfl) dX6_dial_16 ⟨Nat.zero_le _, Nat.zero_le _⟩) hP hD hS hA (p_none _) (p_noneB _) (fun H locs hP hD hS => ?_)
  refine lv_if_ne (tgt := 26) hx hb dX6_dial_19 (by decide) (fun (c_2 : ¬ (isw b 0 719) = 0) => ?_) (fun (c_2 : (isw b 0 719) = 0) => ?_)
  · refine lv_aload_n hx hb dX6_dial_26 rfl (lv_at hl 0 rfl) ?_
    refine x_goV (wn := MW g o (mrec r)) (x_rV (As := []) X (c_X6_record l g o r hm5  _) yf_X6_record yi_X6_record wM_X6_45 ⟨Nat.le_of_ble_eq_true rfl, Nat.le_of_ble_eq_true rfl⟩ hP hD (p_all _) 0 rfl rfl hl rfl rfl (Nat.le_of_ble_eq_true rfl) dX6_dial_27 ⟨Nat.zero_le _, Nat.zero_le _⟩) hP hD hS hA (p_all _) (p_back _) (fun H locs hP hD hS => ?_)
    refine lv_aload_n hx hb dX6_dial_30 rfl (lv_at hl 0 rfl) ?_
    refine lv_iload_n hx hb dX6_dial_31 rfl (lv_at hl 1 rfl) ?_
    refine lv_iload_n hx hb dX6_dial_32 rfl (lv_at hl 2 rfl) ?_
    refine x_goI (wn := MW g o (mz (mrec r) (upd (mZ (mrec r)) 8 b))) (x_rV (As := [.int 0, .int b]) X (c_X6_dials_0 l g o (mrec r) b  _) yf_X6_dials yi_X6_dials wM_X6_67 ⟨Nat.le_of_ble_eq_true rfl, Nat.le_of_ble_eq_true rfl⟩ hP hD (p_all _) 0 rfl rfl hl rfl rfl (Nat.le_of_ble_eq_true rfl) dX6_dial_33 ⟨Nat.zero_le _, Nat.zero_le _⟩) hP hD hS hA (p_all _) (p_back _) (fun H locs hP hD hS => ?_)
    have E : (MW g o (mz (mrec r) (upd (mZ (mrec r)) 8 b)) : va_W) = MW g o (mDial r 0 b).2 := by (simp only [mDial, p_tn0, if_neg c_2, if_neg (show ¬ isf 0 = 0 from by decide)]) <;> rfl
    exact x_iret X hr hlocks (pw E hP) (dw E hD) hS (by (simp only [mDial, p_tn0, if_neg c_2, if_neg (show ¬ isf 0 = 0 from by decide)]) <;> rfl) dX6_dial_36
  · refine lv_sipush (v := (-1002)) hx hb dX6_dial_22 (by decide) ?_
    have E : (MW g o r : va_W) = MW g o (mDial r 0 b).2 := by (simp only [mDial, p_tn0, if_pos c_2, if_neg (show ¬ isf 0 = 0 from by decide)]) <;> rfl
    exact x_iret X hr hlocks (pw E hP) (dw E hD) hS (by (simp only [mDial, p_tn0, if_pos c_2, if_neg (show ¬ isf 0 = 0 from by decide)]) <;> rfl) dX6_dial_25

set_option maxHeartbeats 4000000 in
set_option maxRecDepth 100000 in
theorem c_X6_dial_1 (l : Launch) (g : wG) (o : Nat → Nat) (r : MS) (hm5 : mM r ≤ 5) (b : Int32) : CtI l g 2 yX6_dial cX6_dial 3 (some .int) [.ref (o 0), .int 1, .int b] (MW g o r) ((mDial r 1 b).1) (MW g o (mDial r 1 b).2) := by
  intro sz
  refine x_enter (Qc := fun A => QI g A ((mDial r 1 b).1) (MW g o (mDial r 1 b).2)) (by decide) (Nat.le_of_ble_eq_true rfl) ?_
  intro p e s m args below meth c X hr hlocks A hA hP hD hS ls hl
  obtain ⟨⟨hx, hb, hml, hown, hts⟩, hK, hN⟩ := id X
  have hl : lv_has ls 3 [(0, .ref (o 0)), (1, .int 1), (2, .int b)] := hl
  refine lv_iload_n hx hb dX6_dial_0 rfl (lv_at hl 1 rfl) ?_
  refine x_goI (wn := MW g o r) (x_rS (As := [.int 1]) X (c_X6_isFace l g 1 _) yf_X6_isFace ys_X6_isFace wM_X6_52 ⟨Nat.le_of_ble_eq_true rfl, Nat.le_of_ble_eq_true rfl⟩ hP hD (p_none _) hl rfl rfl (Nat.le_of_ble_eq_true rfl) dX6_dial_1 ⟨Nat.zero_le _, Nat.zero_le _⟩) hP hD hS hA (p_none _) (p_noneB _) (fun H locs hP hD hS => ?_)
  refine lv_if_ne (tgt := 11) hx hb dX6_dial_4 (by decide) (fun c_1 => ?_) (fun q9 => absurd (show (isf 1) = 0 from q9) (show ¬ (isf 1) = 0 from (by decide)))
  refine lv_iload_n hx hb dX6_dial_11 rfl (lv_at hl 2 rfl) ?_
  refine lv_iconst (v := 0) hx hb dX6_dial_12 (by decide) ?_
  refine lv_sipush (v := 719) hx hb dX6_dial_13 (by decide) ?_
  refine x_goI (wn := MW g o r) (x_rS (As := [.int b, .int 0, .int 719]) X (c_X6_in l g b 0 719 _) yf_X6_in ys_X6_in wM_X6_33 ⟨Nat.le_of_ble_eq_true rfl, Nat.le_of_ble_eq_true rfl⟩ hP hD (p_none _) hl rfl rfl (Nat.le_of_ble_eq_true rfl) dX6_dial_16 ⟨Nat.zero_le _, Nat.zero_le _⟩) hP hD hS hA (p_none _) (p_noneB _) (fun H locs hP hD hS => ?_)
  refine lv_if_ne (tgt := 26) hx hb dX6_dial_19 (by decide) (fun (c_2 : ¬ (isw b 0 719) = 0) => ?_) (fun (c_2 : (isw b 0 719) = 0) => ?_)
  · refine lv_aload_n hx hb dX6_dial_26 rfl (lv_at hl 0 rfl) ?_
    refine x_goV (wn := MW g o (mrec r)) (x_rV (As := []) X (c_X6_record l g o r hm5  _) yf_X6_record yi_X6_record wM_X6_45 ⟨Nat.le_of_ble_eq_true rfl, Nat.le_of_ble_eq_true rfl⟩ hP hD (p_all _) 0 rfl rfl hl rfl rfl (Nat.le_of_ble_eq_true rfl) dX6_dial_27 ⟨Nat.zero_le _, Nat.zero_le _⟩) hP hD hS hA (p_all _) (p_back _) (fun H locs hP hD hS => ?_)
    refine lv_aload_n hx hb dX6_dial_30 rfl (lv_at hl 0 rfl) ?_
    refine lv_iload_n hx hb dX6_dial_31 rfl (lv_at hl 1 rfl) ?_
    refine lv_iload_n hx hb dX6_dial_32 rfl (lv_at hl 2 rfl) ?_
    refine x_goI (wn := MW g o (mz (mrec r) (upd (mZ (mrec r)) 15 b))) (x_rV (As := [.int 1, .int b]) X (c_X6_dials_1 l g o (mrec r) b  _) yf_X6_dials yi_X6_dials wM_X6_67 ⟨Nat.le_of_ble_eq_true rfl, Nat.le_of_ble_eq_true rfl⟩ hP hD (p_all _) 0 rfl rfl hl rfl rfl (Nat.le_of_ble_eq_true rfl) dX6_dial_33 ⟨Nat.zero_le _, Nat.zero_le _⟩) hP hD hS hA (p_all _) (p_back _) (fun H locs hP hD hS => ?_)
    have E : (MW g o (mz (mrec r) (upd (mZ (mrec r)) 15 b)) : va_W) = MW g o (mDial r 1 b).2 := by (simp only [mDial, p_tn1, if_neg c_2, if_neg (show ¬ isf 1 = 0 from by decide)]) <;> rfl
    exact x_iret X hr hlocks (pw E hP) (dw E hD) hS (by (simp only [mDial, p_tn1, if_neg c_2, if_neg (show ¬ isf 1 = 0 from by decide)]) <;> rfl) dX6_dial_36
  · refine lv_sipush (v := (-1002)) hx hb dX6_dial_22 (by decide) ?_
    have E : (MW g o r : va_W) = MW g o (mDial r 1 b).2 := by (simp only [mDial, p_tn1, if_pos c_2, if_neg (show ¬ isf 1 = 0 from by decide)]) <;> rfl
    exact x_iret X hr hlocks (pw E hP) (dw E hD) hS (by (simp only [mDial, p_tn1, if_pos c_2, if_neg (show ¬ isf 1 = 0 from by decide)]) <;> rfl) dX6_dial_25

set_option maxHeartbeats 4000000 in
set_option maxRecDepth 100000 in
theorem c_X6_dial_2 (l : Launch) (g : wG) (o : Nat → Nat) (r : MS) (hm5 : mM r ≤ 5) (b : Int32) : CtI l g 2 yX6_dial cX6_dial 3 (some .int) [.ref (o 0), .int 2, .int b] (MW g o r) ((mDial r 2 b).1) (MW g o (mDial r 2 b).2) := by
  intro sz
  refine x_enter (Qc := fun A => QI g A ((mDial r 2 b).1) (MW g o (mDial r 2 b).2)) (by decide) (Nat.le_of_ble_eq_true rfl) ?_
  intro p e s m args below meth c X hr hlocks A hA hP hD hS ls hl
  obtain ⟨⟨hx, hb, hml, hown, hts⟩, hK, hN⟩ := id X
  have hl : lv_has ls 3 [(0, .ref (o 0)), (1, .int 2), (2, .int b)] := hl
  refine lv_iload_n hx hb dX6_dial_0 rfl (lv_at hl 1 rfl) ?_
  refine x_goI (wn := MW g o r) (x_rS (As := [.int 2]) X (c_X6_isFace l g 2 _) yf_X6_isFace ys_X6_isFace wM_X6_52 ⟨Nat.le_of_ble_eq_true rfl, Nat.le_of_ble_eq_true rfl⟩ hP hD (p_none _) hl rfl rfl (Nat.le_of_ble_eq_true rfl) dX6_dial_1 ⟨Nat.zero_le _, Nat.zero_le _⟩) hP hD hS hA (p_none _) (p_noneB _) (fun H locs hP hD hS => ?_)
  refine lv_if_ne (tgt := 11) hx hb dX6_dial_4 (by decide) (fun c_1 => ?_) (fun q9 => absurd (show (isf 2) = 0 from q9) (show ¬ (isf 2) = 0 from (by decide)))
  refine lv_iload_n hx hb dX6_dial_11 rfl (lv_at hl 2 rfl) ?_
  refine lv_iconst (v := 0) hx hb dX6_dial_12 (by decide) ?_
  refine lv_sipush (v := 719) hx hb dX6_dial_13 (by decide) ?_
  refine x_goI (wn := MW g o r) (x_rS (As := [.int b, .int 0, .int 719]) X (c_X6_in l g b 0 719 _) yf_X6_in ys_X6_in wM_X6_33 ⟨Nat.le_of_ble_eq_true rfl, Nat.le_of_ble_eq_true rfl⟩ hP hD (p_none _) hl rfl rfl (Nat.le_of_ble_eq_true rfl) dX6_dial_16 ⟨Nat.zero_le _, Nat.zero_le _⟩) hP hD hS hA (p_none _) (p_noneB _) (fun H locs hP hD hS => ?_)
  refine lv_if_ne (tgt := 26) hx hb dX6_dial_19 (by decide) (fun (c_2 : ¬ (isw b 0 719) = 0) => ?_) (fun (c_2 : (isw b 0 719) = 0) => ?_)
  · refine lv_aload_n hx hb dX6_dial_26 rfl (lv_at hl 0 rfl) ?_
    refine x_goV (wn := MW g o (mrec r)) (x_rV (As := []) X (c_X6_record l g o r hm5  _) yf_X6_record yi_X6_record wM_X6_45 ⟨Nat.le_of_ble_eq_true rfl, Nat.le_of_ble_eq_true rfl⟩ hP hD (p_all _) 0 rfl rfl hl rfl rfl (Nat.le_of_ble_eq_true rfl) dX6_dial_27 ⟨Nat.zero_le _, Nat.zero_le _⟩) hP hD hS hA (p_all _) (p_back _) (fun H locs hP hD hS => ?_)
    refine lv_aload_n hx hb dX6_dial_30 rfl (lv_at hl 0 rfl) ?_
    refine lv_iload_n hx hb dX6_dial_31 rfl (lv_at hl 1 rfl) ?_
    refine lv_iload_n hx hb dX6_dial_32 rfl (lv_at hl 2 rfl) ?_
    refine x_goI (wn := MW g o (mz (mrec r) (upd (mZ (mrec r)) 22 b))) (x_rV (As := [.int 2, .int b]) X (c_X6_dials_2 l g o (mrec r) b  _) yf_X6_dials yi_X6_dials wM_X6_67 ⟨Nat.le_of_ble_eq_true rfl, Nat.le_of_ble_eq_true rfl⟩ hP hD (p_all _) 0 rfl rfl hl rfl rfl (Nat.le_of_ble_eq_true rfl) dX6_dial_33 ⟨Nat.zero_le _, Nat.zero_le _⟩) hP hD hS hA (p_all _) (p_back _) (fun H locs hP hD hS => ?_)
    have E : (MW g o (mz (mrec r) (upd (mZ (mrec r)) 22 b)) : va_W) = MW g o (mDial r 2 b).2 := by (simp only [mDial, p_tn2, if_neg c_2, if_neg (show ¬ isf 2 = 0 from by decide)]) <;> rfl
    exact x_iret X hr hlocks (pw E hP) (dw E hD) hS (by (simp only [mDial, p_tn2, if_neg c_2, if_neg (show ¬ isf 2 = 0 from by decide)]) <;> rfl) dX6_dial_36
  · refine lv_sipush (v := (-1002)) hx hb dX6_dial_22 (by decide) ?_
    have E : (MW g o r : va_W) = MW g o (mDial r 2 b).2 := by (simp only [mDial, p_tn2, if_pos c_2, if_neg (show ¬ isf 2 = 0 from by decide)]) <;> rfl
    exact x_iret X hr hlocks (pw E hP) (dw E hD) hS (by (simp only [mDial, p_tn2, if_pos c_2, if_neg (show ¬ isf 2 = 0 from by decide)]) <;> rfl) dX6_dial_25

set_option maxHeartbeats 4000000 in
set_option maxRecDepth 100000 in
theorem c_X6_dial_3 (l : Launch) (g : wG) (o : Nat → Nat) (r : MS) (hm5 : mM r ≤ 5) (b : Int32) : CtI l g 2 yX6_dial cX6_dial 3 (some .int) [.ref (o 0), .int 3, .int b] (MW g o r) ((mDial r 3 b).1) (MW g o (mDial r 3 b).2) := by
  intro sz
  refine x_enter (Qc := fun A => QI g A ((mDial r 3 b).1) (MW g o (mDial r 3 b).2)) (by decide) (Nat.le_of_ble_eq_true rfl) ?_
  intro p e s m args below meth c X hr hlocks A hA hP hD hS ls hl
  obtain ⟨⟨hx, hb, hml, hown, hts⟩, hK, hN⟩ := id X
  have hl : lv_has ls 3 [(0, .ref (o 0)), (1, .int 3), (2, .int b)] := hl
  refine lv_iload_n hx hb dX6_dial_0 rfl (lv_at hl 1 rfl) ?_
  refine x_goI (wn := MW g o r) (x_rS (As := [.int 3]) X (c_X6_isFace l g 3 _) yf_X6_isFace ys_X6_isFace wM_X6_52 ⟨Nat.le_of_ble_eq_true rfl, Nat.le_of_ble_eq_true rfl⟩ hP hD (p_none _) hl rfl rfl (Nat.le_of_ble_eq_true rfl) dX6_dial_1 ⟨Nat.zero_le _, Nat.zero_le _⟩) hP hD hS hA (p_none _) (p_noneB _) (fun H locs hP hD hS => ?_)
  refine lv_if_ne (tgt := 11) hx hb dX6_dial_4 (by decide) (fun c_1 => ?_) (fun q9 => absurd (show (isf 3) = 0 from q9) (show ¬ (isf 3) = 0 from (by decide)))
  refine lv_iload_n hx hb dX6_dial_11 rfl (lv_at hl 2 rfl) ?_
  refine lv_iconst (v := 0) hx hb dX6_dial_12 (by decide) ?_
  refine lv_sipush (v := 719) hx hb dX6_dial_13 (by decide) ?_
  refine x_goI (wn := MW g o r) (x_rS (As := [.int b, .int 0, .int 719]) X (c_X6_in l g b 0 719 _) yf_X6_in ys_X6_in wM_X6_33 ⟨Nat.le_of_ble_eq_true rfl, Nat.le_of_ble_eq_true rfl⟩ hP hD (p_none _) hl rfl rfl (Nat.le_of_ble_eq_true rfl) dX6_dial_16 ⟨Nat.zero_le _, Nat.zero_le _⟩) hP hD hS hA (p_none _) (p_noneB _) (fun H locs hP hD hS => ?_)
  refine lv_if_ne (tgt := 26) hx hb dX6_dial_19 (by decide) (fun (c_2 : ¬ (isw b 0 719) = 0) => ?_) (fun (c_2 : (isw b 0 719) = 0) => ?_)
  · refine lv_aload_n hx hb dX6_dial_26 rfl (lv_at hl 0 rfl) ?_
    refine x_goV (wn := MW g o (mrec r)) (x_rV (As := []) X (c_X6_record l g o r hm5  _) yf_X6_record yi_X6_record wM_X6_45 ⟨Nat.le_of_ble_eq_true rfl, Nat.le_of_ble_eq_true rfl⟩ hP hD (p_all _) 0 rfl rfl hl rfl rfl (Nat.le_of_ble_eq_true rfl) dX6_dial_27 ⟨Nat.zero_le _, Nat.zero_le _⟩) hP hD hS hA (p_all _) (p_back _) (fun H locs hP hD hS => ?_)
    refine lv_aload_n hx hb dX6_dial_30 rfl (lv_at hl 0 rfl) ?_
    refine lv_iload_n hx hb dX6_dial_31 rfl (lv_at hl 1 rfl) ?_
    refine lv_iload_n hx hb dX6_dial_32 rfl (lv_at hl 2 rfl) ?_
    refine x_goI (wn := MW g o (mz (mrec r) (upd (mZ (mrec r)) 29 b))) (x_rV (As := [.int 3, .int b]) X (c_X6_dials_3 l g o (mrec r) b  _) yf_X6_dials yi_X6_dials wM_X6_67 ⟨Nat.le_of_ble_eq_true rfl, Nat.le_of_ble_eq_true rfl⟩ hP hD (p_all _) 0 rfl rfl hl rfl rfl (Nat.le_of_ble_eq_true rfl) dX6_dial_33 ⟨Nat.zero_le _, Nat.zero_le _⟩) hP hD hS hA (p_all _) (p_back _) (fun H locs hP hD hS => ?_)
    have E : (MW g o (mz (mrec r) (upd (mZ (mrec r)) 29 b)) : va_W) = MW g o (mDial r 3 b).2 := by (simp only [mDial, p_tn3, if_neg c_2, if_neg (show ¬ isf 3 = 0 from by decide)]) <;> rfl
    exact x_iret X hr hlocks (pw E hP) (dw E hD) hS (by (simp only [mDial, p_tn3, if_neg c_2, if_neg (show ¬ isf 3 = 0 from by decide)]) <;> rfl) dX6_dial_36
  · refine lv_sipush (v := (-1002)) hx hb dX6_dial_22 (by decide) ?_
    have E : (MW g o r : va_W) = MW g o (mDial r 3 b).2 := by (simp only [mDial, p_tn3, if_pos c_2, if_neg (show ¬ isf 3 = 0 from by decide)]) <;> rfl
    exact x_iret X hr hlocks (pw E hP) (dw E hD) hS (by (simp only [mDial, p_tn3, if_pos c_2, if_neg (show ¬ isf 3 = 0 from by decide)]) <;> rfl) dX6_dial_25

theorem c_X6_dial (l : Launch) (g : wG) (o : Nat → Nat) (r : MS) (hm5 : mM r ≤ 5) (a b : Int32) : CtI l g 2 yX6_dial cX6_dial 3 (some .int) [.ref (o 0), .int a, .int b] (MW g o r) ((mDial r a b).1) (MW g o (mDial r a b).2) := by
  by_cases hi : isf a = 0
  · exact c_X6_dial_e l g o r a b hi
  · obtain ⟨k, hk, rfl⟩ := isw_nI (n := 3) (by decide) hi
    rcases (show k = 0 ∨ k = 1 ∨ k = 2 ∨ k = 3 by omega) with rfl | rfl | rfl | rfl
    · exact c_X6_dial_0 l g o r hm5 b
    · exact c_X6_dial_1 l g o r hm5 b
    · exact c_X6_dial_2 l g o r hm5 b
    · exact c_X6_dial_3 l g o r hm5 b
set_option maxHeartbeats 4000000 in
set_option maxRecDepth 100000 in
theorem c_X6_bell_e (l : Launch) (g : wG) (o : Nat → Nat) (r : MS) (a : Int32) (hi : isf a = 0) : CtI l g 2 yX6_bell cX6_bell 2 (some .int) [.ref (o 0), .int a] (MW g o r) ((mBell r a).1) (MW g o (mBell r a).2) := by
  intro sz
  refine x_enter (Qc := fun A => QI g A ((mBell r a).1) (MW g o (mBell r a).2)) (by decide) (Nat.le_of_ble_eq_true rfl) ?_
  intro p e s m args below meth c X hr hlocks A hA hP hD hS ls hl
  obtain ⟨⟨hx, hb, hml, hown, hts⟩, hK, hN⟩ := id X
  have hl : lv_has ls 2 [(0, .ref (o 0)), (1, .int a)] := hl
  refine lv_iload_n hx hb dX6_bell_0 rfl (lv_at hl 1 rfl) ?_
  refine x_goI (wn := MW g o r) (x_rS (As := [.int a]) X (c_X6_isFace l g a _) yf_X6_isFace ys_X6_isFace wM_X6_52 ⟨Nat.le_of_ble_eq_true rfl, Nat.le_of_ble_eq_true rfl⟩ hP hD (p_none _) hl rfl rfl (Nat.le_of_ble_eq_true rfl) dX6_bell_1 ⟨Nat.zero_le _, Nat.zero_le _⟩) hP hD hS hA (p_none _) (p_noneB _) (fun H locs hP hD hS => ?_)
  refine lv_if_ne (tgt := 11) hx hb dX6_bell_4 (by decide) (fun q9 => absurd (show (isf a) = 0 from hi) q9) (fun c_1 => ?_)
  refine lv_sipush (v := (-1001)) hx hb dX6_bell_7 (by decide) ?_
  have E : (MW g o r : va_W) = MW g o (mBell r a).2 := by (simp only [mBell, if_pos hi]) <;> rfl
  exact x_iret X hr hlocks (pw E hP) (dw E hD) hS (by (simp only [mBell, if_pos hi]) <;> rfl) dX6_bell_10

set_option maxHeartbeats 4000000 in
set_option maxRecDepth 100000 in
theorem c_X6_bell_0 (l : Launch) (g : wG) (o : Nat → Nat) (r : MS) (hm5 : mM r ≤ 5) : CtI l g 2 yX6_bell cX6_bell 2 (some .int) [.ref (o 0), .int 0] (MW g o r) ((mBell r 0).1) (MW g o (mBell r 0).2) := by
  intro sz
  refine x_enter (Qc := fun A => QI g A ((mBell r 0).1) (MW g o (mBell r 0).2)) (by decide) (Nat.le_of_ble_eq_true rfl) ?_
  intro p e s m args below meth c X hr hlocks A hA hP hD hS ls hl
  obtain ⟨⟨hx, hb, hml, hown, hts⟩, hK, hN⟩ := id X
  have hl : lv_has ls 2 [(0, .ref (o 0)), (1, .int 0)] := hl
  refine lv_iload_n hx hb dX6_bell_0 rfl (lv_at hl 1 rfl) ?_
  refine x_goI (wn := MW g o r) (x_rS (As := [.int 0]) X (c_X6_isFace l g 0 _) yf_X6_isFace ys_X6_isFace wM_X6_52 ⟨Nat.le_of_ble_eq_true rfl, Nat.le_of_ble_eq_true rfl⟩ hP hD (p_none _) hl rfl rfl (Nat.le_of_ble_eq_true rfl) dX6_bell_1 ⟨Nat.zero_le _, Nat.zero_le _⟩) hP hD hS hA (p_none _) (p_noneB _) (fun H locs hP hD hS => ?_)
  refine lv_if_ne (tgt := 11) hx hb dX6_bell_4 (by decide) (fun c_1 => ?_) (fun q9 => absurd (show (isf 0) = 0 from q9) (show ¬ (isf 0) = 0 from (by decide)))
  refine lv_aload_n hx hb dX6_bell_11 rfl (lv_at hl 0 rfl) ?_
  refine x_goV (wn := MW g o (mrec r)) (x_rV (As := []) X (c_X6_record l g o r hm5  _) yf_X6_record yi_X6_record wM_X6_45 ⟨Nat.le_of_ble_eq_true rfl, Nat.le_of_ble_eq_true rfl⟩ hP hD (p_all _) 0 rfl rfl hl rfl rfl (Nat.le_of_ble_eq_true rfl) dX6_bell_12 ⟨Nat.zero_le _, Nat.zero_le _⟩) hP hD hS hA (p_all _) (p_back _) (fun H locs hP hD hS => ?_)
  refine lv_aload_n hx hb dX6_bell_15 rfl (lv_at hl 0 rfl) ?_
  refine lv_iload_n hx hb dX6_bell_16 rfl (lv_at hl 1 rfl) ?_
  refine x_goI (wn := MW g o (mz (mrec r) (hanM 8 (mZ (mrec r))))) (x_rV (As := [.int 0]) X (c_X6_hangs_0 l g o (mrec r)   _) yf_X6_hangs yi_X6_hangs wM_X6_70 ⟨Nat.le_of_ble_eq_true rfl, Nat.le_of_ble_eq_true rfl⟩ hP hD (p_all _) 0 rfl rfl hl rfl rfl (Nat.le_of_ble_eq_true rfl) dX6_bell_17 ⟨Nat.zero_le _, Nat.zero_le _⟩) hP hD hS hA (p_all _) (p_back _) (fun H locs hP hD hS => ?_)
  have E : (MW g o (mz (mrec r) (hanM 8 (mZ (mrec r)))) : va_W) = MW g o (mBell r 0).2 := by (simp only [mBell, p_tn0, if_neg (show ¬ isf 0 = 0 from by decide)]) <;> rfl
  exact x_iret X hr hlocks (pw E hP) (dw E hD) hS (by (simp only [mBell, p_tn0, if_neg (show ¬ isf 0 = 0 from by decide)]) <;> rfl) dX6_bell_20

set_option maxHeartbeats 4000000 in
set_option maxRecDepth 100000 in
theorem c_X6_bell_1 (l : Launch) (g : wG) (o : Nat → Nat) (r : MS) (hm5 : mM r ≤ 5) : CtI l g 2 yX6_bell cX6_bell 2 (some .int) [.ref (o 0), .int 1] (MW g o r) ((mBell r 1).1) (MW g o (mBell r 1).2) := by
  intro sz
  refine x_enter (Qc := fun A => QI g A ((mBell r 1).1) (MW g o (mBell r 1).2)) (by decide) (Nat.le_of_ble_eq_true rfl) ?_
  intro p e s m args below meth c X hr hlocks A hA hP hD hS ls hl
  obtain ⟨⟨hx, hb, hml, hown, hts⟩, hK, hN⟩ := id X
  have hl : lv_has ls 2 [(0, .ref (o 0)), (1, .int 1)] := hl
  refine lv_iload_n hx hb dX6_bell_0 rfl (lv_at hl 1 rfl) ?_
  refine x_goI (wn := MW g o r) (x_rS (As := [.int 1]) X (c_X6_isFace l g 1 _) yf_X6_isFace ys_X6_isFace wM_X6_52 ⟨Nat.le_of_ble_eq_true rfl, Nat.le_of_ble_eq_true rfl⟩ hP hD (p_none _) hl rfl rfl (Nat.le_of_ble_eq_true rfl) dX6_bell_1 ⟨Nat.zero_le _, Nat.zero_le _⟩) hP hD hS hA (p_none _) (p_noneB _) (fun H locs hP hD hS => ?_)
  refine lv_if_ne (tgt := 11) hx hb dX6_bell_4 (by decide) (fun c_1 => ?_) (fun q9 => absurd (show (isf 1) = 0 from q9) (show ¬ (isf 1) = 0 from (by decide)))
  refine lv_aload_n hx hb dX6_bell_11 rfl (lv_at hl 0 rfl) ?_
  refine x_goV (wn := MW g o (mrec r)) (x_rV (As := []) X (c_X6_record l g o r hm5  _) yf_X6_record yi_X6_record wM_X6_45 ⟨Nat.le_of_ble_eq_true rfl, Nat.le_of_ble_eq_true rfl⟩ hP hD (p_all _) 0 rfl rfl hl rfl rfl (Nat.le_of_ble_eq_true rfl) dX6_bell_12 ⟨Nat.zero_le _, Nat.zero_le _⟩) hP hD hS hA (p_all _) (p_back _) (fun H locs hP hD hS => ?_)
  refine lv_aload_n hx hb dX6_bell_15 rfl (lv_at hl 0 rfl) ?_
  refine lv_iload_n hx hb dX6_bell_16 rfl (lv_at hl 1 rfl) ?_
  refine x_goI (wn := MW g o (mz (mrec r) (hanM 15 (mZ (mrec r))))) (x_rV (As := [.int 1]) X (c_X6_hangs_1 l g o (mrec r)   _) yf_X6_hangs yi_X6_hangs wM_X6_70 ⟨Nat.le_of_ble_eq_true rfl, Nat.le_of_ble_eq_true rfl⟩ hP hD (p_all _) 0 rfl rfl hl rfl rfl (Nat.le_of_ble_eq_true rfl) dX6_bell_17 ⟨Nat.zero_le _, Nat.zero_le _⟩) hP hD hS hA (p_all _) (p_back _) (fun H locs hP hD hS => ?_)
  have E : (MW g o (mz (mrec r) (hanM 15 (mZ (mrec r)))) : va_W) = MW g o (mBell r 1).2 := by (simp only [mBell, p_tn1, if_neg (show ¬ isf 1 = 0 from by decide)]) <;> rfl
  exact x_iret X hr hlocks (pw E hP) (dw E hD) hS (by (simp only [mBell, p_tn1, if_neg (show ¬ isf 1 = 0 from by decide)]) <;> rfl) dX6_bell_20

set_option maxHeartbeats 4000000 in
set_option maxRecDepth 100000 in
theorem c_X6_bell_2 (l : Launch) (g : wG) (o : Nat → Nat) (r : MS) (hm5 : mM r ≤ 5) : CtI l g 2 yX6_bell cX6_bell 2 (some .int) [.ref (o 0), .int 2] (MW g o r) ((mBell r 2).1) (MW g o (mBell r 2).2) := by
  intro sz
  refine x_enter (Qc := fun A => QI g A ((mBell r 2).1) (MW g o (mBell r 2).2)) (by decide) (Nat.le_of_ble_eq_true rfl) ?_
  intro p e s m args below meth c X hr hlocks A hA hP hD hS ls hl
  obtain ⟨⟨hx, hb, hml, hown, hts⟩, hK, hN⟩ := id X
  have hl : lv_has ls 2 [(0, .ref (o 0)), (1, .int 2)] := hl
  refine lv_iload_n hx hb dX6_bell_0 rfl (lv_at hl 1 rfl) ?_
  refine x_goI (wn := MW g o r) (x_rS (As := [.int 2]) X (c_X6_isFace l g 2 _) yf_X6_isFace ys_X6_isFace wM_X6_52 ⟨Nat.le_of_ble_eq_true rfl, Nat.le_of_ble_eq_true rfl⟩ hP hD (p_none _) hl rfl rfl (Nat.le_of_ble_eq_true rfl) dX6_bell_1 ⟨Nat.zero_le _, Nat.zero_le _⟩) hP hD hS hA (p_none _) (p_noneB _) (fun H locs hP hD hS => ?_)
  refine lv_if_ne (tgt := 11) hx hb dX6_bell_4 (by decide) (fun c_1 => ?_) (fun q9 => absurd (show (isf 2) = 0 from q9) (show ¬ (isf 2) = 0 from (by decide)))
  refine lv_aload_n hx hb dX6_bell_11 rfl (lv_at hl 0 rfl) ?_
  refine x_goV (wn := MW g o (mrec r)) (x_rV (As := []) X (c_X6_record l g o r hm5  _) yf_X6_record yi_X6_record wM_X6_45 ⟨Nat.le_of_ble_eq_true rfl, Nat.le_of_ble_eq_true rfl⟩ hP hD (p_all _) 0 rfl rfl hl rfl rfl (Nat.le_of_ble_eq_true rfl) dX6_bell_12 ⟨Nat.zero_le _, Nat.zero_le _⟩) hP hD hS hA (p_all _) (p_back _) (fun H locs hP hD hS => ?_)
  refine lv_aload_n hx hb dX6_bell_15 rfl (lv_at hl 0 rfl) ?_
  refine lv_iload_n hx hb dX6_bell_16 rfl (lv_at hl 1 rfl) ?_
  refine x_goI (wn := MW g o (mz (mrec r) (hanM 22 (mZ (mrec r))))) (x_rV (As := [.int 2]) X (c_X6_hangs_2 l g o (mrec r)   _) yf_X6_hangs yi_X6_hangs wM_X6_70 ⟨Nat.le_of_ble_eq_true rfl, Nat.le_of_ble_eq_true rfl⟩ hP hD (p_all _) 0 rfl rfl hl rfl rfl (Nat.le_of_ble_eq_true rfl) dX6_bell_17 ⟨Nat.zero_le _, Nat.zero_le _⟩) hP hD hS hA (p_all _) (p_back _) (fun H locs hP hD hS => ?_)
  have E : (MW g o (mz (mrec r) (hanM 22 (mZ (mrec r)))) : va_W) = MW g o (mBell r 2).2 := by (simp only [mBell, p_tn2, if_neg (show ¬ isf 2 = 0 from by decide)]) <;> rfl
  exact x_iret X hr hlocks (pw E hP) (dw E hD) hS (by (simp only [mBell, p_tn2, if_neg (show ¬ isf 2 = 0 from by decide)]) <;> rfl) dX6_bell_20

set_option maxHeartbeats 4000000 in
set_option maxRecDepth 100000 in
theorem c_X6_bell_3 (l : Launch) (g : wG) (o : Nat → Nat) (r : MS) (hm5 : mM r ≤ 5) : CtI l g 2 yX6_bell cX6_bell 2 (some .int) [.ref (o 0), .int 3] (MW g o r) ((mBell r 3).1) (MW g o (mBell r 3).2) := by
  intro sz
  refine x_enter (Qc := fun A => QI g A ((mBell r 3).1) (MW g o (mBell r 3).2)) (by decide) (Nat.le_of_ble_eq_true rfl) ?_
  intro p e s m args below meth c X hr hlocks A hA hP hD hS ls hl
  obtain ⟨⟨hx, hb, hml, hown, hts⟩, hK, hN⟩ := id X
  have hl : lv_has ls 2 [(0, .ref (o 0)), (1, .int 3)] := hl
  refine lv_iload_n hx hb dX6_bell_0 rfl (lv_at hl 1 rfl) ?_
  refine x_goI (wn := MW g o r) (x_rS (As := [.int 3]) X (c_X6_isFace l g 3 _) yf_X6_isFace ys_X6_isFace wM_X6_52 ⟨Nat.le_of_ble_eq_true rfl, Nat.le_of_ble_eq_true rfl⟩ hP hD (p_none _) hl rfl rfl (Nat.le_of_ble_eq_true rfl) dX6_bell_1 ⟨Nat.zero_le _, Nat.zero_le _⟩) hP hD hS hA (p_none _) (p_noneB _) (fun H locs hP hD hS => ?_)
  refine lv_if_ne (tgt := 11) hx hb dX6_bell_4 (by decide) (fun c_1 => ?_) (fun q9 => absurd (show (isf 3) = 0 from q9) (show ¬ (isf 3) = 0 from (by decide)))
  refine lv_aload_n hx hb dX6_bell_11 rfl (lv_at hl 0 rfl) ?_
  refine x_goV (wn := MW g o (mrec r)) (x_rV (As := []) X (c_X6_record l g o r hm5  _) yf_X6_record yi_X6_record wM_X6_45 ⟨Nat.le_of_ble_eq_true rfl, Nat.le_of_ble_eq_true rfl⟩ hP hD (p_all _) 0 rfl rfl hl rfl rfl (Nat.le_of_ble_eq_true rfl) dX6_bell_12 ⟨Nat.zero_le _, Nat.zero_le _⟩) hP hD hS hA (p_all _) (p_back _) (fun H locs hP hD hS => ?_)
  refine lv_aload_n hx hb dX6_bell_15 rfl (lv_at hl 0 rfl) ?_
  refine lv_iload_n hx hb dX6_bell_16 rfl (lv_at hl 1 rfl) ?_
  refine x_goI (wn := MW g o (mz (mrec r) (hanM 29 (mZ (mrec r))))) (x_rV (As := [.int 3]) X (c_X6_hangs_3 l g o (mrec r)   _) yf_X6_hangs yi_X6_hangs wM_X6_70 ⟨Nat.le_of_ble_eq_true rfl, Nat.le_of_ble_eq_true rfl⟩ hP hD (p_all _) 0 rfl rfl hl rfl rfl (Nat.le_of_ble_eq_true rfl) dX6_bell_17 ⟨Nat.zero_le _, Nat.zero_le _⟩) hP hD hS hA (p_all _) (p_back _) (fun H locs hP hD hS => ?_)
  have E : (MW g o (mz (mrec r) (hanM 29 (mZ (mrec r)))) : va_W) = MW g o (mBell r 3).2 := by (simp only [mBell, p_tn3, if_neg (show ¬ isf 3 = 0 from by decide)]) <;> rfl
  exact x_iret X hr hlocks (pw E hP) (dw E hD) hS (by (simp only [mBell, p_tn3, if_neg (show ¬ isf 3 = 0 from by decide)]) <;> rfl) dX6_bell_20

theorem c_X6_bell (l : Launch) (g : wG) (o : Nat → Nat) (r : MS) (hm5 : mM r ≤ 5) (a : Int32) : CtI l g 2 yX6_bell cX6_bell 2 (some .int) [.ref (o 0), .int a] (MW g o r) ((mBell r a).1) (MW g o (mBell r a).2) := by
  by_cases hi : isf a = 0
  · exact c_X6_bell_e l g o r a hi
  · obtain ⟨k, hk, rfl⟩ := isw_nI (n := 3) (by decide) hi
    rcases (show k = 0 ∨ k = 1 ∨ k = 2 ∨ k = 3 by omega) with rfl | rfl | rfl | rfl
    · exact c_X6_bell_0 l g o r hm5
    · exact c_X6_bell_1 l g o r hm5
    · exact c_X6_bell_2 l g o r hm5
    · exact c_X6_bell_3 l g o r hm5
def mPass (r : MS) (cn : Nat) (a : Int32) : Int32 × MS := if 0 ≤ wnp (mZ r) a then ((pmsM cn a.toNatClampNeg (mZ r) 0).2, mz (mrec r) (pmsM cn a.toNatClampNeg (mZ r) 0).1) else (wnp (mZ r) a, r)
theorem wnp_nI {z : RI} {a : Int32} (h : 0 ≤ wnp z a) : ∃ k, k < 2 ^ 31 ∧ a = nI k := by
  unfold wnp at h
  by_cases h1 : a < 0
  · rw [if_pos (show isw a 1 2000 = 0 from by unfold isw; rw [if_pos]; exact Int32.lt_trans h1 (by decide))] at h
    exact absurd h (by decide)
  · obtain ⟨j, hj, e⟩ := nI_of h1
    exact ⟨j, hj, e⟩
set_option maxHeartbeats 4000000 in
set_option maxRecDepth 100000 in
theorem c_X6_pass_e (l : Launch) (g : wG) (o : Nat → Nat) (r : MS) (hm5 : mM r ≤ 5) (cn : Nat) (hc : cn ≤ 6) (hz : mZ r 7 = nI cn) (a : Int32) (he : ¬ 0 ≤ wnp (mZ r) a) : CtI l g 6 yX6_pass cX6_pass 3 (some .int) [.ref (o 0), .int a] (MW g o r) ((mPass r cn a).1) (MW g o (mPass r cn a).2) := by
  intro sz
  refine x_enter (Qc := fun A => QI g A ((mPass r cn a).1) (MW g o (mPass r cn a).2)) (by decide) (Nat.le_of_ble_eq_true rfl) ?_
  intro p e s m args below meth c X hr hlocks A hA hP hD hS ls hl
  obtain ⟨⟨hx, hb, hml, hown, hts⟩, hK, hN⟩ := id X
  have hl : lv_has ls 3 [(0, .ref (o 0)), (1, .int a)] := hl
  refine lv_aload_n hx hb dX6_pass_0 rfl (lv_at hl 0 rfl) ?_
  refine lv_iload_n hx hb dX6_pass_1 rfl (lv_at hl 1 rfl) ?_
  refine x_goI (wn := MW g o r) (x_rV (As := [.int a]) X (c_X6_whyNotPass l g o r  a _) yf_X6_whyNotPass yi_X6_whyNotPass wM_X6_90 ⟨Nat.le_of_ble_eq_true rfl, Nat.le_of_ble_eq_true rfl⟩ hP hD (p_all _) 0 rfl rfl hl rfl rfl (Nat.le_of_ble_eq_true rfl) dX6_pass_2 ⟨Nat.zero_le _, Nat.zero_le _⟩) hP hD hS hA (p_all _) (p_back _) (fun H locs hP hD hS => ?_)
  refine lv_istore_n (lv' := [(2, .int (wnp (mZ r) a)), (0, .ref (o 0)), (1, .int a)]) hx hb dX6_pass_5 rfl hl (by decide) rfl (fun ls hl => ?_)
  refine lv_iload_n hx hb dX6_pass_6 rfl (lv_at hl 0 rfl) ?_
  refine lv_if_ge (tgt := 12) hx hb dX6_pass_7 (by decide) (fun q9 => absurd q9 (show ¬ 0 ≤ (wnp (mZ r) a) from he)) (fun c_1 => ?_)
  refine lv_iload_n hx hb dX6_pass_10 rfl (lv_at hl 0 rfl) ?_
  have E : (MW g o r : va_W) = MW g o (mPass r cn a).2 := by (simp only [mPass, if_neg he]) <;> rfl
  exact x_iret X hr hlocks (pw E hP) (dw E hD) hS (by (simp only [mPass, if_neg he]) <;> rfl) dX6_pass_11

set_option maxHeartbeats 4000000 in
set_option maxRecDepth 100000 in
theorem c_X6_pass_o (l : Launch) (g : wG) (o : Nat → Nat) (r : MS) (hm5 : mM r ≤ 5) (cn : Nat) (hc : cn ≤ 6) (hz : mZ r 7 = nI cn) (mn : Nat) (hm : mn < 2 ^ 31) (he : 0 ≤ wnp (mZ r) (nI mn)) : CtI l g 6 yX6_pass cX6_pass 3 (some .int) [.ref (o 0), .int (nI mn)] (MW g o r) ((mPass r cn (nI mn)).1) (MW g o (mPass r cn (nI mn)).2) := by
  intro sz
  refine x_enter (Qc := fun A => QI g A ((mPass r cn (nI mn)).1) (MW g o (mPass r cn (nI mn)).2)) (by decide) (Nat.le_of_ble_eq_true rfl) ?_
  intro p e s m args below meth c X hr hlocks A hA hP hD hS ls hl
  obtain ⟨⟨hx, hb, hml, hown, hts⟩, hK, hN⟩ := id X
  have hl : lv_has ls 3 [(0, .ref (o 0)), (1, .int (nI mn))] := hl
  have hmn : (nI mn).toNatClampNeg = mn := nI_clamp hm
  refine lv_aload_n hx hb dX6_pass_0 rfl (lv_at hl 0 rfl) ?_
  refine lv_iload_n hx hb dX6_pass_1 rfl (lv_at hl 1 rfl) ?_
  refine x_goI (wn := MW g o r) (x_rV (As := [.int (nI mn)]) X (c_X6_whyNotPass l g o r  (nI mn) _) yf_X6_whyNotPass yi_X6_whyNotPass wM_X6_90 ⟨Nat.le_of_ble_eq_true rfl, Nat.le_of_ble_eq_true rfl⟩ hP hD (p_all _) 0 rfl rfl hl rfl rfl (Nat.le_of_ble_eq_true rfl) dX6_pass_2 ⟨Nat.zero_le _, Nat.zero_le _⟩) hP hD hS hA (p_all _) (p_back _) (fun H locs hP hD hS => ?_)
  refine lv_istore_n (lv' := [(2, .int (wnp (mZ r) (nI mn))), (0, .ref (o 0)), (1, .int (nI mn))]) hx hb dX6_pass_5 rfl hl (by decide) rfl (fun ls hl => ?_)
  refine lv_iload_n hx hb dX6_pass_6 rfl (lv_at hl 0 rfl) ?_
  refine lv_if_ge (tgt := 12) hx hb dX6_pass_7 (by decide) (fun c_1 => ?_) (fun q9 => absurd (show 0 ≤ (wnp (mZ r) (nI mn)) from he) (show ¬ (0 ≤ (wnp (mZ r) (nI mn))) from q9))
  refine lv_aload_n hx hb dX6_pass_12 rfl (lv_at hl 1 rfl) ?_
  refine x_goV (wn := MW g o (mrec r)) (x_rV (As := []) X (c_X6_record l g o r hm5  _) yf_X6_record yi_X6_record wM_X6_45 ⟨Nat.le_of_ble_eq_true rfl, Nat.le_of_ble_eq_true rfl⟩ hP hD (p_all _) 0 rfl rfl hl rfl rfl (Nat.le_of_ble_eq_true rfl) dX6_pass_13 ⟨Nat.zero_le _, Nat.zero_le _⟩) hP hD hS hA (p_all _) (p_back _) (fun H locs hP hD hS => ?_)
  refine lv_aload_n hx hb dX6_pass_16 rfl (lv_at hl 1 rfl) ?_
  refine lv_iload_n hx hb dX6_pass_17 rfl (lv_at hl 2 rfl) ?_
  refine x_goI (wn := MW g o (mz (mrec r) ((pmsM cn mn (mZ (mrec r)) 0).1))) (x_rV (As := [.int (nI mn)]) X (c_X6_passes l g o (mrec r) cn hc hz mn hm  _) yf_X6_passes yi_X6_passes wM_X6_93 ⟨Nat.le_of_ble_eq_true rfl, Nat.le_of_ble_eq_true rfl⟩ hP hD (p_all _) 0 rfl rfl hl rfl rfl (Nat.le_of_ble_eq_true rfl) dX6_pass_18 ⟨Nat.zero_le _, Nat.zero_le _⟩) hP hD hS hA (p_all _) (p_back _) (fun H locs hP hD hS => ?_)
  have E : (MW g o (mz (mrec r) ((pmsM cn mn (mZ (mrec r)) 0).1)) : va_W) = MW g o (mPass r cn (nI mn)).2 := by (simp only [mPass, if_pos he, hmn]) <;> rfl
  exact x_iret X hr hlocks (pw E hP) (dw E hD) hS (by (simp only [mPass, if_pos he, hmn]) <;> rfl) dX6_pass_21

theorem c_X6_pass (l : Launch) (g : wG) (o : Nat → Nat) (r : MS) (hm5 : mM r ≤ 5) (cn : Nat) (hc : cn ≤ 6) (hz : mZ r 7 = nI cn) (a : Int32) : CtI l g 6 yX6_pass cX6_pass 3 (some .int) [.ref (o 0), .int a] (MW g o r) ((mPass r cn a).1) (MW g o (mPass r cn a).2) := by
  by_cases he : 0 ≤ wnp (mZ r) a
  · obtain ⟨k, hk, rfl⟩ := wnp_nI he
    exact c_X6_pass_o l g o r hm5 cn hc hz k hk he
  · exact c_X6_pass_e l g o r hm5 cn hc hz a he
def mHire (r : MS) (cn : Nat) (a b : Int32) : Int32 × MS := if 0 ≤ wnh (mZ r) cn a b then (nI (cn + 1), mz (mrec r) (hirM (mZ r) cn a b)) else (wnh (mZ r) cn a b, r)
theorem wnh_lt {z : RI} {cn : Nat} {a b : Int32} (hc : cn ≤ 6) (h : 0 ≤ wnh z cn a b) : cn < 6 := by
  unfold wnh at h
  split at h
  · exact absurd h (by decide)
  · split at h
    · exact absurd h (by decide)
    · split at h
      · split at h
        · exact absurd h (by decide)
        · rename_i h1
          rcases Nat.lt_or_ge cn 6 with q | q
          · exact q
          · exact absurd (by rw [show cn = 6 by omega]; rfl) h1
      · exact absurd h (by decide)
set_option maxHeartbeats 4000000 in
set_option maxRecDepth 100000 in
theorem c_X6_hire_e (l : Launch) (g : wG) (o : Nat → Nat) (r : MS) (hm5 : mM r ≤ 5) (cn : Nat) (hc : cn ≤ 6) (hz : mZ r 7 = nI cn) (a b : Int32) (he : ¬ 0 ≤ wnh (mZ r) cn a b) : CtI l g 3 yX6_hire cX6_hire 4 (some .int) [.ref (o 0), .int a, .int b] (MW g o r) ((mHire r cn a b).1) (MW g o (mHire r cn a b).2) := by
  intro sz
  refine x_enter (Qc := fun A => QI g A ((mHire r cn a b).1) (MW g o (mHire r cn a b).2)) (by decide) (Nat.le_of_ble_eq_true rfl) ?_
  intro p e s m args below meth c X hr hlocks A hA hP hD hS ls hl
  obtain ⟨⟨hx, hb, hml, hown, hts⟩, hK, hN⟩ := id X
  have hl : lv_has ls 4 [(0, .ref (o 0)), (1, .int a), (2, .int b)] := hl
  refine lv_aload_n hx hb dX6_hire_0 rfl (lv_at hl 0 rfl) ?_
  refine lv_iload_n hx hb dX6_hire_1 rfl (lv_at hl 1 rfl) ?_
  refine lv_iload_n hx hb dX6_hire_2 rfl (lv_at hl 2 rfl) ?_
  refine x_goI (wn := MW g o r) (x_rV (As := [.int a, .int b]) X (c_X6_whyNotHire l g o r cn hc hz a b  _) yf_X6_whyNotHire yi_X6_whyNotHire wM_X6_105 ⟨Nat.le_of_ble_eq_true rfl, Nat.le_of_ble_eq_true rfl⟩ hP hD (p_all _) 0 rfl rfl hl rfl rfl (Nat.le_of_ble_eq_true rfl) dX6_hire_3 ⟨Nat.zero_le _, Nat.zero_le _⟩) hP hD hS hA (p_all _) (p_back _) (fun H locs hP hD hS => ?_)
  refine lv_istore_n (lv' := [(3, .int (wnh (mZ r) cn a b)), (0, .ref (o 0)), (1, .int a), (2, .int b)]) hx hb dX6_hire_6 rfl hl (by decide) rfl (fun ls hl => ?_)
  refine lv_iload_n hx hb dX6_hire_7 rfl (lv_at hl 0 rfl) ?_
  refine lv_if_ge (tgt := 13) hx hb dX6_hire_8 (by decide) (fun q9 => absurd q9 (show ¬ 0 ≤ (wnh (mZ r) cn a b) from he)) (fun c_1 => ?_)
  refine lv_iload_n hx hb dX6_hire_11 rfl (lv_at hl 0 rfl) ?_
  have E : (MW g o r : va_W) = MW g o (mHire r cn a b).2 := by (simp only [mHire, if_neg he]) <;> rfl
  exact x_iret X hr hlocks (pw E hP) (dw E hD) hS (by (simp only [mHire, if_neg he]) <;> rfl) dX6_hire_12

set_option maxHeartbeats 4000000 in
set_option maxRecDepth 100000 in
theorem c_X6_hire_o (l : Launch) (g : wG) (o : Nat → Nat) (r : MS) (hm5 : mM r ≤ 5) (cn : Nat) (hc : cn ≤ 6) (hz : mZ r 7 = nI cn) (a b : Int32) (he : 0 ≤ wnh (mZ r) cn a b) : CtI l g 3 yX6_hire cX6_hire 4 (some .int) [.ref (o 0), .int a, .int b] (MW g o r) ((mHire r cn a b).1) (MW g o (mHire r cn a b).2) := by
  intro sz
  refine x_enter (Qc := fun A => QI g A ((mHire r cn a b).1) (MW g o (mHire r cn a b).2)) (by decide) (Nat.le_of_ble_eq_true rfl) ?_
  intro p e s m args below meth c X hr hlocks A hA hP hD hS ls hl
  obtain ⟨⟨hx, hb, hml, hown, hts⟩, hK, hN⟩ := id X
  have hl : lv_has ls 4 [(0, .ref (o 0)), (1, .int a), (2, .int b)] := hl
  refine lv_aload_n hx hb dX6_hire_0 rfl (lv_at hl 0 rfl) ?_
  refine lv_iload_n hx hb dX6_hire_1 rfl (lv_at hl 1 rfl) ?_
  refine lv_iload_n hx hb dX6_hire_2 rfl (lv_at hl 2 rfl) ?_
  refine x_goI (wn := MW g o r) (x_rV (As := [.int a, .int b]) X (c_X6_whyNotHire l g o r cn hc hz a b  _) yf_X6_whyNotHire yi_X6_whyNotHire wM_X6_105 ⟨Nat.le_of_ble_eq_true rfl, Nat.le_of_ble_eq_true rfl⟩ hP hD (p_all _) 0 rfl rfl hl rfl rfl (Nat.le_of_ble_eq_true rfl) dX6_hire_3 ⟨Nat.zero_le _, Nat.zero_le _⟩) hP hD hS hA (p_all _) (p_back _) (fun H locs hP hD hS => ?_)
  refine lv_istore_n (lv' := [(3, .int (wnh (mZ r) cn a b)), (0, .ref (o 0)), (1, .int a), (2, .int b)]) hx hb dX6_hire_6 rfl hl (by decide) rfl (fun ls hl => ?_)
  refine lv_iload_n hx hb dX6_hire_7 rfl (lv_at hl 0 rfl) ?_
  refine lv_if_ge (tgt := 13) hx hb dX6_hire_8 (by decide) (fun c_1 => ?_) (fun q9 => absurd (show 0 ≤ (wnh (mZ r) cn a b) from he) (show ¬ (0 ≤ (wnh (mZ r) cn a b)) from q9))
  refine lv_aload_n hx hb dX6_hire_13 rfl (lv_at hl 1 rfl) ?_
  refine x_goV (wn := MW g o (mrec r)) (x_rV (As := []) X (c_X6_record l g o r hm5  _) yf_X6_record yi_X6_record wM_X6_45 ⟨Nat.le_of_ble_eq_true rfl, Nat.le_of_ble_eq_true rfl⟩ hP hD (p_all _) 0 rfl rfl hl rfl rfl (Nat.le_of_ble_eq_true rfl) dX6_hire_14 ⟨Nat.zero_le _, Nat.zero_le _⟩) hP hD hS hA (p_all _) (p_back _) (fun H locs hP hD hS => ?_)
  refine lv_aload_n hx hb dX6_hire_17 rfl (lv_at hl 1 rfl) ?_
  refine lv_iload_n hx hb dX6_hire_18 rfl (lv_at hl 2 rfl) ?_
  refine lv_iload_n hx hb dX6_hire_19 rfl (lv_at hl 3 rfl) ?_
  refine x_goI (wn := MW g o (mz (mrec r) (hirM (mZ (mrec r)) cn a b))) (x_rV (As := [.int a, .int b]) X (c_X6_hires l g o (mrec r) cn (wnh_lt hc he) hz a b  _) yf_X6_hires yi_X6_hires wM_X6_108 ⟨Nat.le_of_ble_eq_true rfl, Nat.le_of_ble_eq_true rfl⟩ hP hD (p_all _) 0 rfl rfl hl rfl rfl (Nat.le_of_ble_eq_true rfl) dX6_hire_20 ⟨Nat.zero_le _, Nat.zero_le _⟩) hP hD hS hA (p_all _) (p_back _) (fun H locs hP hD hS => ?_)
  have E : (MW g o (mz (mrec r) (hirM (mZ (mrec r)) cn a b)) : va_W) = MW g o (mHire r cn a b).2 := by (simp only [mHire, if_pos he]) <;> rfl
  exact x_iret X hr hlocks (pw E hP) (dw E hD) hS (by (simp only [mHire, if_pos he]) <;> rfl) dX6_hire_23

theorem c_X6_hire (l : Launch) (g : wG) (o : Nat → Nat) (r : MS) (hm5 : mM r ≤ 5) (cn : Nat) (hc : cn ≤ 6) (hz : mZ r 7 = nI cn) (a b : Int32) : CtI l g 3 yX6_hire cX6_hire 4 (some .int) [.ref (o 0), .int a, .int b] (MW g o r) ((mHire r cn a b).1) (MW g o (mHire r cn a b).2) := by
  by_cases he : 0 ≤ wnh (mZ r) cn a b
  · exact c_X6_hire_o l g o r hm5 cn hc hz a b he
  · exact c_X6_hire_e l g o r hm5 cn hc hz a b he
theorem kbL_rng (z : RI) (x : Int32) (cn n : Nat) : ∀ k f, k + n = cn → (f = -1000 ∨ ∃ b, b < cn ∧ f = nI b) → (kbL z x n k f = -1000 ∨ ∃ b, b < cn ∧ kbL z x n k f = nI b) := by
  induction n with
  | zero => intro k f _ h; exact h
  | succ n ih =>
    intro k f hk hf
    by_cases h : z (36 + 2 * k) = x
    · simp only [kbL, if_pos h]; exact ih _ _ (by omega) (Or.inr ⟨k, by omega, rfl⟩)
    · simp only [kbL, if_neg h]; exact ih _ _ (by omega) hf
def dis1 (z : RI) (cn : Nat) : RI := upd z 7 (nI (cn - 1))
def dis2 (z : RI) (cn b : Nat) : RI := upd (dis1 z cn) (36 + 2 * b) (dis1 z cn (36 + 2 * (cn - 1)))
def disM (z : RI) (cn b : Nat) : RI := upd (dis2 z cn b) (36 + 2 * b + 1) (dis2 z cn b (36 + 2 * (cn - 1) + 1))
def mDismiss (r : MS) (cn : Nat) (a : Int32) : Int32 × MS := if kbL (mZ r) a cn 0 (-1000) = -1000 then (-1001, r) else (mZ r (36 + 2 * (kbL (mZ r) a cn 0 (-1000)).toNatClampNeg + 1), mz (mrec r) (disM (mZ r) cn (kbL (mZ r) a cn 0 (-1000)).toNatClampNeg))
set_option maxHeartbeats 4000000 in
set_option maxRecDepth 100000 in
theorem c_X6_dismiss_e (l : Launch) (g : wG) (o : Nat → Nat) (r : MS) (hm5 : mM r ≤ 5) (cn : Nat) (hc : cn ≤ 6) (hz : mZ r 7 = nI cn) (a : Int32) (he : kbL (mZ r) a cn 0 (-1000) = -1000) : CtI l g 2 yX6_dismiss cX6_dismiss 4 (some .int) [.ref (o 0), .int a] (MW g o r) ((mDismiss r cn a).1) (MW g o (mDismiss r cn a).2) := by
  intro sz
  refine x_enter (Qc := fun A => QI g A ((mDismiss r cn a).1) (MW g o (mDismiss r cn a).2)) (by decide) (Nat.le_of_ble_eq_true rfl) ?_
  intro p e s m args below meth c X hr hlocks A hA hP hD hS ls hl
  obtain ⟨⟨hx, hb, hml, hown, hts⟩, hK, hN⟩ := id X
  have hl : lv_has ls 4 [(0, .ref (o 0)), (1, .int a)] := hl
  refine lv_aload_n hx hb dX6_dismiss_0 rfl (lv_at hl 0 rfl) ?_
  refine lv_iload_n hx hb dX6_dismiss_1 rfl (lv_at hl 1 rfl) ?_
  refine x_goI (wn := MW g o r) (x_rV (As := [.int a]) X (c_X6_keeperBy l g o r cn hc hz a  _) yf_X6_keeperBy yi_X6_keeperBy wM_X6_102 ⟨Nat.le_of_ble_eq_true rfl, Nat.le_of_ble_eq_true rfl⟩ hP hD (p_all _) 0 rfl rfl hl rfl rfl (Nat.le_of_ble_eq_true rfl) dX6_dismiss_2 ⟨Nat.zero_le _, Nat.zero_le _⟩) hP hD hS hA (p_all _) (p_back _) (fun H locs hP hD hS => ?_)
  refine lv_istore_n (lv' := [(2, .int (kbL (mZ r) a cn 0 (-1000))), (0, .ref (o 0)), (1, .int a)]) hx hb dX6_dismiss_5 rfl hl (by decide) rfl (fun ls hl => ?_)
  refine lv_iload_n hx hb dX6_dismiss_6 rfl (lv_at hl 0 rfl) ?_
  refine lv_sipush (v := (-1000)) hx hb dX6_dismiss_7 (by decide) ?_
  refine lv_icmp_ne (tgt := 17) hx hb dX6_dismiss_10 (by decide) (fun q9 => absurd (show (kbL (mZ r) a cn 0 (-1000)) = (-1000) from he) q9) (fun c_1 => ?_)
  refine lv_sipush (v := (-1001)) hx hb dX6_dismiss_13 (by decide) ?_
  have E : (MW g o r : va_W) = MW g o (mDismiss r cn a).2 := by (simp only [mDismiss, if_pos he]) <;> rfl
  exact x_iret X hr hlocks (pw E hP) (dw E hD) hS (by (simp only [mDismiss, if_pos he]) <;> rfl) dX6_dismiss_16

set_option maxHeartbeats 4000000 in
set_option maxRecDepth 100000 in
theorem c_X6_dismiss_o (l : Launch) (g : wG) (o : Nat → Nat) (r : MS) (hm5 : mM r ≤ 5) (cn : Nat) (hc : cn ≤ 6) (hz : mZ r 7 = nI cn) (a : Int32) (b : Nat) (hb4 : b < cn) (hk : kbL (mZ r) a cn 0 (-1000) = nI b) : CtI l g 2 yX6_dismiss cX6_dismiss 4 (some .int) [.ref (o 0), .int a] (MW g o r) ((mDismiss r cn a).1) (MW g o (mDismiss r cn a).2) := by
  intro sz
  refine x_enter (Qc := fun A => QI g A ((mDismiss r cn a).1) (MW g o (mDismiss r cn a).2)) (by decide) (Nat.le_of_ble_eq_true rfl) ?_
  intro p e s m args below meth c X hr hlocks A hA hP hD hS ls hl
  obtain ⟨⟨hx, hb, hml, hown, hts⟩, hK, hN⟩ := id X
  have hl : lv_has ls 4 [(0, .ref (o 0)), (1, .int a)] := hl
  refine lv_aload_n hx hb dX6_dismiss_0 rfl (lv_at hl 0 rfl) ?_
  refine lv_iload_n hx hb dX6_dismiss_1 rfl (lv_at hl 1 rfl) ?_
  refine x_goI (wn := MW g o r) (x_rV (As := [.int a]) X (c_X6_keeperBy l g o r cn hc hz a  _) yf_X6_keeperBy yi_X6_keeperBy wM_X6_102 ⟨Nat.le_of_ble_eq_true rfl, Nat.le_of_ble_eq_true rfl⟩ hP hD (p_all _) 0 rfl rfl hl rfl rfl (Nat.le_of_ble_eq_true rfl) dX6_dismiss_2 ⟨Nat.zero_le _, Nat.zero_le _⟩) hP hD hS hA (p_all _) (p_back _) (fun H locs hP hD hS => ?_)
  refine W.eq (g2 := F0 m 5 ls [.int (nI b)]) (by rw [hk]) ?_
  refine lv_istore_n (lv' := [(2, .int (nI b)), (0, .ref (o 0)), (1, .int a)]) hx hb dX6_dismiss_5 rfl hl (by decide) rfl (fun ls hl => ?_)
  refine lv_iload_n hx hb dX6_dismiss_6 rfl (lv_at hl 0 rfl) ?_
  refine lv_sipush (v := (-1000)) hx hb dX6_dismiss_7 (by decide) ?_
  refine lv_icmp_ne (tgt := 17) hx hb dX6_dismiss_10 (by decide) (fun c_1 => ?_) (fun q9 => absurd (show (nI b) = (-1000) from q9) (show ¬ (nI b) = (-1000) from (ne1000 (by omega))))
  refine lv_aload_n hx hb dX6_dismiss_17 rfl (lv_at hl 1 rfl) ?_
  refine x_goV (wn := MW g o (mrec r)) (x_rV (As := []) X (c_X6_record l g o r hm5  _) yf_X6_record yi_X6_record wM_X6_45 ⟨Nat.le_of_ble_eq_true rfl, Nat.le_of_ble_eq_true rfl⟩ hP hD (p_all _) 0 rfl rfl hl rfl rfl (Nat.le_of_ble_eq_true rfl) dX6_dismiss_18 ⟨Nat.zero_le _, Nat.zero_le _⟩) hP hD hS hA (p_all _) (p_back _) (fun H locs hP hD hS => ?_)
  refine lv_aload_n hx hb dX6_dismiss_21 rfl (lv_at hl 1 rfl) ?_
  refine lv_iload_n hx hb dX6_dismiss_22 rfl (lv_at hl 0 rfl) ?_
  refine x_goI (wn := MW g o (mrec r)) (x_rV (As := [.int (nI b)]) X (c_X6_wrongOf l g o (mrec r) b (by omega)  _) yf_X6_wrongOf yi_X6_wrongOf wM_X6_111 ⟨Nat.le_of_ble_eq_true rfl, Nat.le_of_ble_eq_true rfl⟩ hP hD (p_all _) 0 rfl rfl hl rfl rfl (Nat.le_of_ble_eq_true rfl) dX6_dismiss_23 ⟨Nat.zero_le _, Nat.zero_le _⟩) hP hD hS hA (p_all _) (p_back _) (fun H locs hP hD hS => ?_)
  refine lv_istore_n (lv' := [(3, .int ((mZ (mrec r)) (36 + 2 * b + 1))), (2, .int (nI b)), (0, .ref (o 0)), (1, .int a)]) hx hb dX6_dismiss_26 rfl hl (by decide) rfl (fun ls hl => ?_)
  refine lv_aload_n hx hb dX6_dismiss_27 rfl (lv_at hl 2 rfl) ?_
  refine x_get (v := .ref (o 1)) X 0 0 in_X6 hP rfl rfl (by decide) wF_X6_7 rfl rfl dX6_dismiss_28 ?_
  refine lv_bipush (v := 7) hx hb dX6_dismiss_31 (by decide) ?_
  refine lv_dup2_11 hx hb dX6_dismiss_33 rfl rfl ?_
  refine x_iald (v := ((mZ (mrec r)) 7)) X 1 7 hP rfl rfl (by decide) (Nat.le_of_ble_eq_true rfl) rfl dX6_dismiss_34 ?_
  refine lv_iconst (v := 1) hx hb dX6_dismiss_35 (by decide) ?_
  refine lv_isub hx hb dX6_dismiss_36 ?_
  refine W.eq (g2 := F0 m 37 ls [.int (nI (cn - 1)), .int 7, .ref (o 1)]) (by rw [show mZ (mrec r) 7 = nI cn from hz, show nI cn - 1 = nI (cn - 1) from pk_sub (b := 1) (by omega)]) ?_
  refine x_iast (ws2 := MW g o (mz (mrec r) (upd (mZ (mrec r)) 7 (nI (cn - 1))))) X 1 7 hP hD hS rfl rfl (by decide) (Nat.le_of_ble_eq_true rfl) rfl dX6_dismiss_37 (fun H locs hP hD hS => ?_)
  refine lv_aload_n hx hb dX6_dismiss_38 rfl (lv_at hl 2 rfl) ?_
  refine x_get (v := .ref (o 1)) X 0 0 in_X6 hP rfl rfl (by decide) wF_X6_7 rfl rfl dX6_dismiss_39 ?_
  refine lv_bipush (v := 36) hx hb dX6_dismiss_42 (by decide) ?_
  refine lv_iconst (v := 2) hx hb dX6_dismiss_44 (by decide) ?_
  refine lv_iload_n hx hb dX6_dismiss_45 rfl (lv_at hl 1 rfl) ?_
  refine lv_imul hx hb dX6_dismiss_46 ?_
  refine lv_iadd hx hb dX6_dismiss_47 ?_
  refine lv_aload_n hx hb dX6_dismiss_48 rfl (lv_at hl 2 rfl) ?_
  refine lv_aload_n hx hb dX6_dismiss_49 rfl (lv_at hl 2 rfl) ?_
  refine x_get (v := .ref (o 1)) X 0 0 in_X6 hP rfl rfl (by decide) wF_X6_7 rfl rfl dX6_dismiss_50 ?_
  refine lv_bipush (v := 7) hx hb dX6_dismiss_53 (by decide) ?_
  refine x_iald (v := (nI (cn - 1))) X 1 7 hP rfl rfl (by decide) (Nat.le_of_ble_eq_true rfl) rfl dX6_dismiss_55 ?_
  refine x_goI (wn := MW g o (mz (mrec r) (upd (mZ (mrec r)) 7 (nI (cn - 1))))) (x_rV (As := [.int (nI (cn - 1))]) X (c_X6_startOf l g o (mz (mrec r) (upd (mZ (mrec r)) 7 (nI (cn - 1)))) (cn - 1) (by omega)  _) yf_X6_startOf yi_X6_startOf wM_X6_96 ⟨Nat.le_of_ble_eq_true rfl, Nat.le_of_ble_eq_true rfl⟩ hP hD (p_all _) 0 rfl rfl hl rfl rfl (Nat.le_of_ble_eq_true rfl) dX6_dismiss_56 ⟨Nat.zero_le _, Nat.zero_le _⟩) hP hD hS hA (p_all _) (p_back _) (fun H locs hP hD hS => ?_)
  refine x_iast (ws2 := MW g o (mz (mrec r) (upd (upd (mZ (mrec r)) 7 (nI (cn - 1))) (36 + 2 * b) ((upd (mZ (mrec r)) 7 (nI (cn - 1))) (36 + 2 * (cn - 1)))))) X 1 (36 + 2 * b) hP hD hS rfl (ix_s b) (by omega) (Nat.le_of_ble_eq_true rfl) rfl dX6_dismiss_59 (fun H locs hP hD hS => ?_)
  refine lv_aload_n hx hb dX6_dismiss_60 rfl (lv_at hl 2 rfl) ?_
  refine x_get (v := .ref (o 1)) X 0 0 in_X6 hP rfl rfl (by decide) wF_X6_7 rfl rfl dX6_dismiss_61 ?_
  refine lv_bipush (v := 36) hx hb dX6_dismiss_64 (by decide) ?_
  refine lv_iconst (v := 2) hx hb dX6_dismiss_66 (by decide) ?_
  refine lv_iload_n hx hb dX6_dismiss_67 rfl (lv_at hl 1 rfl) ?_
  refine lv_imul hx hb dX6_dismiss_68 ?_
  refine lv_iadd hx hb dX6_dismiss_69 ?_
  refine lv_iconst (v := 1) hx hb dX6_dismiss_70 (by decide) ?_
  refine lv_iadd hx hb dX6_dismiss_71 ?_
  refine lv_aload_n hx hb dX6_dismiss_72 rfl (lv_at hl 2 rfl) ?_
  refine lv_aload_n hx hb dX6_dismiss_73 rfl (lv_at hl 2 rfl) ?_
  refine x_get (v := .ref (o 1)) X 0 0 in_X6 hP rfl rfl (by decide) wF_X6_7 rfl rfl dX6_dismiss_74 ?_
  refine lv_bipush (v := 7) hx hb dX6_dismiss_77 (by decide) ?_
  refine x_iald (v := ((upd (upd (mZ (mrec r)) 7 (nI (cn - 1))) (36 + 2 * b) ((upd (mZ (mrec r)) 7 (nI (cn - 1))) (36 + 2 * (cn - 1)))) 7)) X 1 7 hP rfl rfl (by decide) (Nat.le_of_ble_eq_true rfl) rfl dX6_dismiss_79 ?_
  refine W.eq (g2 := F0 m 80 ls [.int (nI (cn - 1)), .ref (o 0), .int ((36 + (2 * (nI b))) + 1), .ref (o 1)]) (by rw [hz_a (z := upd (mZ (mrec r)) 7 (nI (cn - 1))) (cn := cn - 1) rfl (by omega)]) ?_
  refine x_goI (wn := MW g o (mz (mrec r) (upd (upd (mZ (mrec r)) 7 (nI (cn - 1))) (36 + 2 * b) ((upd (mZ (mrec r)) 7 (nI (cn - 1))) (36 + 2 * (cn - 1)))))) (x_rV (As := [.int (nI (cn - 1))]) X (c_X6_wrongOf l g o (mz (mrec r) (upd (upd (mZ (mrec r)) 7 (nI (cn - 1))) (36 + 2 * b) ((upd (mZ (mrec r)) 7 (nI (cn - 1))) (36 + 2 * (cn - 1))))) (cn - 1) (by omega)  _) yf_X6_wrongOf yi_X6_wrongOf wM_X6_111 ⟨Nat.le_of_ble_eq_true rfl, Nat.le_of_ble_eq_true rfl⟩ hP hD (p_all _) 0 rfl rfl hl rfl rfl (Nat.le_of_ble_eq_true rfl) dX6_dismiss_80 ⟨Nat.zero_le _, Nat.zero_le _⟩) hP hD hS hA (p_all _) (p_back _) (fun H locs hP hD hS => ?_)
  refine x_iast (ws2 := MW g o (mz (mrec r) (upd (upd (upd (mZ (mrec r)) 7 (nI (cn - 1))) (36 + 2 * b) ((upd (mZ (mrec r)) 7 (nI (cn - 1))) (36 + 2 * (cn - 1)))) (36 + 2 * b + 1) ((upd (upd (mZ (mrec r)) 7 (nI (cn - 1))) (36 + 2 * b) ((upd (mZ (mrec r)) 7 (nI (cn - 1))) (36 + 2 * (cn - 1)))) (36 + 2 * (cn - 1) + 1))))) X 1 (36 + 2 * b + 1) hP hD hS rfl (ix_w b) (by omega) (Nat.le_of_ble_eq_true rfl) rfl dX6_dismiss_83 (fun H locs hP hD hS => ?_)
  refine lv_iload_n hx hb dX6_dismiss_84 rfl (lv_at hl 0 rfl) ?_
  have hb2 : (kbL (mZ r) a cn 0 (-1000)).toNatClampNeg = b := by rw [hk, nI_clamp (by omega)]
  have hn : ¬ kbL (mZ r) a cn 0 (-1000) = -1000 := by rw [hk]; exact ne1000 (by omega)
  have E : (MW g o (mz (mrec r) (upd (upd (upd (mZ (mrec r)) 7 (nI (cn - 1))) (36 + 2 * b) ((upd (mZ (mrec r)) 7 (nI (cn - 1))) (36 + 2 * (cn - 1)))) (36 + 2 * b + 1) ((upd (upd (mZ (mrec r)) 7 (nI (cn - 1))) (36 + 2 * b) ((upd (mZ (mrec r)) 7 (nI (cn - 1))) (36 + 2 * (cn - 1)))) (36 + 2 * (cn - 1) + 1)))) : va_W) = MW g o (mDismiss r cn a).2 := by unfold mDismiss; rw [if_neg hn, hb2]; rfl
  exact x_iret X hr hlocks (pw E hP) (dw E hD) hS (by unfold mDismiss; rw [if_neg hn, hb2]; rfl) dX6_dismiss_85

theorem c_X6_dismiss (l : Launch) (g : wG) (o : Nat → Nat) (r : MS) (hm5 : mM r ≤ 5) (cn : Nat) (hc : cn ≤ 6) (hz : mZ r 7 = nI cn) (a : Int32) : CtI l g 2 yX6_dismiss cX6_dismiss 4 (some .int) [.ref (o 0), .int a] (MW g o r) ((mDismiss r cn a).1) (MW g o (mDismiss r cn a).2) := by
  rcases kbL_rng (mZ r) a cn cn 0 (-1000) (Nat.zero_add cn) (Or.inl rfl) with he | ⟨b, hb4, hk⟩
  · exact c_X6_dismiss_e l g o r hm5 cn hc hz a he
  · exact c_X6_dismiss_o l g o r hm5 cn hc hz a b hb4 hk
theorem h1_of {x : Int32} {cn : Nat} (hz : x = nI cn) (h : ¬ x = 0) : 1 ≤ cn := by
  rcases Nat.eq_zero_or_pos cn with e | e
  · exact absurd (by rw [hz, e]; rfl) h
  · exact e
def mReset (r : MS) (cn : Nat) : Int32 × MS := if mZ r 7 = 0 then (-1003, r) else (rrM cn (mZ r), mz (mrec r) (rzM cn (mZ r)))
set_option maxHeartbeats 4000000 in
set_option maxRecDepth 100000 in
theorem c_X6_reset (l : Launch) (g : wG) (o : Nat → Nat) (r : MS) (hm5 : mM r ≤ 5) (cn : Nat) (hc : cn ≤ 6) (hz : mZ r 7 = nI cn) : CtI l g 4 yX6_reset cX6_reset 1 (some .int) [.ref (o 0)] (MW g o r) ((mReset r cn).1) (MW g o (mReset r cn).2) := by
  intro sz
  refine x_enter (Qc := fun A => QI g A ((mReset r cn).1) (MW g o (mReset r cn).2)) (by decide) (Nat.le_of_ble_eq_true rfl) ?_
  intro p e s m args below meth c X hr hlocks A hA hP hD hS ls hl
  obtain ⟨⟨hx, hb, hml, hown, hts⟩, hK, hN⟩ := id X
  have hl : lv_has ls 1 [(0, .ref (o 0))] := hl
  refine lv_aload_n hx hb dX6_reset_0 rfl (lv_at hl 0 rfl) ?_
  refine x_get (v := .ref (o 1)) X 0 0 in_X6 hP rfl rfl (by decide) wF_X6_7 rfl rfl dX6_reset_1 ?_
  refine lv_bipush (v := 7) hx hb dX6_reset_4 (by decide) ?_
  refine x_iald (v := ((mZ r) 7)) X 1 7 hP rfl rfl (by decide) (Nat.le_of_ble_eq_true rfl) rfl dX6_reset_6 ?_
  refine lv_if_ne (tgt := 14) hx hb dX6_reset_7 (by decide) (fun (c_1 : ¬ ((mZ r) 7) = 0) => ?_) (fun (c_1 : ((mZ r) 7) = 0) => ?_)
  · refine lv_aload_n hx hb dX6_reset_14 rfl (lv_at hl 0 rfl) ?_
    refine x_goV (wn := MW g o (mrec r)) (x_rV (As := []) X (c_X6_record l g o r hm5  _) yf_X6_record yi_X6_record wM_X6_45 ⟨Nat.le_of_ble_eq_true rfl, Nat.le_of_ble_eq_true rfl⟩ hP hD (p_all _) 0 rfl rfl hl rfl rfl (Nat.le_of_ble_eq_true rfl) dX6_reset_15 ⟨Nat.zero_le _, Nat.zero_le _⟩) hP hD hS hA (p_all _) (p_back _) (fun H locs hP hD hS => ?_)
    refine lv_aload_n hx hb dX6_reset_18 rfl (lv_at hl 0 rfl) ?_
    refine x_goI (wn := MW g o (mz (mrec r) (rzM cn (mZ (mrec r))))) (x_rV (As := []) X (c_X6_resets l g o (mrec r) cn hc hz (h1_of hz c_1)  _) yf_X6_resets yi_X6_resets wM_X6_83 ⟨Nat.le_of_ble_eq_true rfl, Nat.le_of_ble_eq_true rfl⟩ hP hD (p_all _) 0 rfl rfl hl rfl rfl (Nat.le_of_ble_eq_true rfl) dX6_reset_19 ⟨Nat.zero_le _, Nat.zero_le _⟩) hP hD hS hA (p_all _) (p_back _) (fun H locs hP hD hS => ?_)
    have E : (MW g o (mz (mrec r) (rzM cn (mZ (mrec r)))) : va_W) = MW g o (mReset r cn).2 := by (simp only [mReset, if_neg c_1]) <;> rfl
    exact x_iret X hr hlocks (pw E hP) (dw E hD) hS (by (simp only [mReset, if_neg c_1]) <;> rfl) dX6_reset_22
  · refine lv_sipush (v := (-1003)) hx hb dX6_reset_10 (by decide) ?_
    have E : (MW g o r : va_W) = MW g o (mReset r cn).2 := by (simp only [mReset, if_pos c_1]) <;> rfl
    exact x_iret X hr hlocks (pw E hP) (dw E hD) hS (by (simp only [mReset, if_pos c_1]) <;> rfl) dX6_reset_13

def mKeeperTime (r : MS) (cn : Nat) : Int32 := if mZ r 7 = 0 then -1000 else dueM cn (mZ r)
set_option maxHeartbeats 4000000 in
set_option maxRecDepth 100000 in
theorem c_X6_keeperTime (l : Launch) (g : wG) (o : Nat → Nat) (r : MS) (cn : Nat) (hc : cn ≤ 6) (hz : mZ r 7 = nI cn) : CtI l g 3 yX6_keeperTime cX6_keeperTime 1 (some .int) [.ref (o 0)] (MW g o r) (mKeeperTime r cn) (MW g o r) := by
  intro sz
  refine x_enter (Qc := fun A => QI g A (mKeeperTime r cn) (MW g o r)) (by decide) (Nat.le_of_ble_eq_true rfl) ?_
  intro p e s m args below meth c X hr hlocks A hA hP hD hS ls hl
  obtain ⟨⟨hx, hb, hml, hown, hts⟩, hK, hN⟩ := id X
  have hl : lv_has ls 1 [(0, .ref (o 0))] := hl
  refine lv_aload_n hx hb dX6_keeperTime_0 rfl (lv_at hl 0 rfl) ?_
  refine x_get (v := .ref (o 1)) X 0 0 in_X6 hP rfl rfl (by decide) wF_X6_7 rfl rfl dX6_keeperTime_1 ?_
  refine lv_bipush (v := 7) hx hb dX6_keeperTime_4 (by decide) ?_
  refine x_iald (v := ((mZ r) 7)) X 1 7 hP rfl rfl (by decide) (Nat.le_of_ble_eq_true rfl) rfl dX6_keeperTime_6 ?_
  refine lv_if_ne (tgt := 16) hx hb dX6_keeperTime_7 (by decide) (fun (c_1 : ¬ ((mZ r) 7) = 0) => ?_) (fun (c_1 : ((mZ r) 7) = 0) => ?_)
  · have h1x : 1 ≤ cn := h1_of hz c_1
    refine lv_aload_n hx hb dX6_keeperTime_16 rfl (lv_at hl 0 rfl) ?_
    refine lv_aload_n hx hb dX6_keeperTime_17 rfl (lv_at hl 0 rfl) ?_
    refine lv_aload_n hx hb dX6_keeperTime_18 rfl (lv_at hl 0 rfl) ?_
    refine x_goI (wn := MW g o r) (x_rV (As := []) X (c_X6_minuteOfDay l g o r   _) yf_X6_minuteOfDay yi_X6_minuteOfDay wM_X6_79 ⟨Nat.le_of_ble_eq_true rfl, Nat.le_of_ble_eq_true rfl⟩ hP hD (p_all _) 0 rfl rfl hl rfl rfl (Nat.le_of_ble_eq_true rfl) dX6_keeperTime_19 ⟨Nat.zero_le _, Nat.zero_le _⟩) hP hD hS hA (p_all _) (p_back _) (fun H locs hP hD hS => ?_)
    refine x_goI (wn := MW g o r) (x_rV (As := [.int (jrem ((mZ r) 0) 1440)]) X (c_X6_onWatch l g o r cn hc hz h1x (jrem ((mZ r) 0) 1440)  _) yf_X6_onWatch yi_X6_onWatch wM_X6_114 ⟨Nat.le_of_ble_eq_true rfl, Nat.le_of_ble_eq_true rfl⟩ hP hD (p_all _) 0 rfl rfl hl rfl rfl (Nat.le_of_ble_eq_true rfl) dX6_keeperTime_22 ⟨Nat.zero_le _, Nat.zero_le _⟩) hP hD hS hA (p_all _) (p_back _) (fun H locs hP hD hS => ?_)
    refine x_goI (wn := MW g o r) (x_rV (As := [.int (nI (owN (mZ r) (jrem ((mZ r) 0) 1440) cn))]) X (c_X6_timeOf l g o r (owN (mZ r) (jrem ((mZ r) 0) 1440) cn) (Nat.lt_of_lt_of_le (owN_lt _ _ h1x) hc)  _) yf_X6_timeOf yi_X6_timeOf wM_X6_117 ⟨Nat.le_of_ble_eq_true rfl, Nat.le_of_ble_eq_true rfl⟩ hP hD (p_all _) 0 rfl rfl hl rfl rfl (Nat.le_of_ble_eq_true rfl) dX6_keeperTime_25 ⟨Nat.zero_le _, Nat.zero_le _⟩) hP hD hS hA (p_all _) (p_back _) (fun H locs hP hD hS => ?_)
    exact x_iret X hr hlocks hP hD hS (by (simp only [mKeeperTime, if_neg c_1]) <;> rfl) dX6_keeperTime_28
  · refine lv_sipush (v := (-1000)) hx hb dX6_keeperTime_10 (by decide) ?_
    refine lv_goto (tgt := 28) hx hb dX6_keeperTime_13 (by decide) ?_
    exact x_iret X hr hlocks hP hD hS (by (simp only [mKeeperTime, if_pos c_1]) <;> rfl) dX6_keeperTime_28

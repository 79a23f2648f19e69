abbrev RQ : Type := Nat × Int32 × Int32 × Int32 × Int32
abbrev XU (g : wG) (xa sa ln : Nat) (u : RQ) (sg : Nat → Int32) : va_W := XT g xa sa (nI ln) (nI u.1) u.2.1 u.2.2.1 u.2.2.2.1 u.2.2.2.2 sg
def rdF (sg : Nat → Int32) (ln : Nat) (a b : Int32) (p : Nat) : Int32 × Nat := if p < ln then (if isw (sg p - 48) a b = 0 then (-1, p) else (sg p - 48, p + 1)) else (-1, p)
theorem rdF_le (sg : Nat → Int32) (ln : Nat) (a b : Int32) {p : Nat} (hp : p ≤ ln) : (rdF sg ln a b p).2 ≤ ln := by
  unfold rdF
  split
  · split
    · exact hp
    · exact Nat.succ_le_of_lt (by assumption)
  · exact hp
def rsF (sg : Nat → Int32) (ln : Nat) (x : Int32) (p : Nat) : Int32 × Nat := if p < ln then (if sg p = x then (1, p + 1) else (0, p)) else (0, p)
theorem rsF_le (sg : Nat → Int32) (ln : Nat) (x : Int32) {p : Nat} (hp : p ≤ ln) : (rsF sg ln x p).2 ≤ ln := by
  unfold rsF
  split
  · split
    · exact Nat.succ_le_of_lt (by assumption)
    · exact hp
  · exact hp
theorem rsF_b (sg : Nat → Int32) (ln : Nat) (x : Int32) (p : Nat) : (rsF sg ln x p).1 = 0 ∨ (rsF sg ln x p).1 = 1 := by
  unfold rsF
  split
  · split
    · exact Or.inr rfl
    · exact Or.inl rfl
  · exact Or.inl rfl
set_option maxHeartbeats 4000000 in
set_option maxRecDepth 100000 in
theorem c_X4_readDigit_A (l : Launch) (g : wG) (xa sa ln : Nat) (hln : ln ≤ 60) (u : RQ) (hp : u.1 ≤ ln) (sg : Nat → Int32) (a b : Int32) (hlt : u.1 < ln) : CtI l g 1 yX4_readDigit cX4_readDigit 4 (some .int) [.ref xa, .int a, .int b] (XU g xa sa ln u sg) ((rdF sg ln a b u.1).1) (XU g xa sa ln ((rdF sg ln a b u.1).2, u.2.1, u.2.2.1, u.2.2.2.1, u.2.2.2.2) sg) := by
  intro sz
  refine x_enter (Qc := fun A => QI g A ((rdF sg ln a b u.1).1) (XU g xa sa ln ((rdF sg ln a b u.1).2, u.2.1, u.2.2.1, u.2.2.2.1, u.2.2.2.2) sg)) (by decide) (Nat.le_of_ble_eq_true rfl) ?_
  intro p e s m args below meth c X hr hlocks A hA hP hD hS ls hl
  obtain ⟨⟨hx, hb, hml, hown, hts⟩, hK, hN⟩ := id X
  have hl : lv_has ls 4 [(0, .ref xa), (1, .int a), (2, .int b)] := hl
  refine lv_aload_n hx hb dX4_readDigit_0 rfl (lv_at hl 0 rfl) ?_
  refine x_get (v := .int (nI u.1)) X 0 2 in_X4 hP rfl rfl (by decide) wF_X4_19 rfl rfl dX4_readDigit_1 ?_
  refine lv_aload_n hx hb dX4_readDigit_4 rfl (lv_at hl 0 rfl) ?_
  refine x_get (v := .int (nI ln)) X 0 1 in_X4 hP rfl rfl (by decide) wF_X4_15 rfl rfl dX4_readDigit_5 ?_
  refine lv_icmp_ge (tgt := 31) hx hb dX4_readDigit_8 (by decide) (fun q9 => absurd q9 (show ¬ (nI ln) ≤ (nI u.1) from (nI_ge hlt (by omega)))) (fun c_1 => ?_)
  refine lv_aload_n hx hb dX4_readDigit_11 rfl (lv_at hl 0 rfl) ?_
  refine x_get (v := .ref sa) X 0 0 in_X4 hP rfl rfl (by decide) wF_X4_9 rfl rfl dX4_readDigit_12 ?_
  refine lv_aload_n hx hb dX4_readDigit_15 rfl (lv_at hl 0 rfl) ?_
  refine x_get (v := .int (nI u.1)) X 0 2 in_X4 hP rfl rfl (by decide) wF_X4_19 rfl rfl dX4_readDigit_16 ?_
  refine x_cald (v := (sg u.1)) X 1 u.1 hP rfl rfl (by omega) (Nat.le_of_ble_eq_true rfl) rfl dX4_readDigit_19 ?_
  refine lv_bipush (v := 48) hx hb dX4_readDigit_20 (by decide) ?_
  refine lv_isub hx hb dX4_readDigit_22 ?_
  refine lv_iload_n hx hb dX4_readDigit_23 rfl (lv_at hl 1 rfl) ?_
  refine lv_iload_n hx hb dX4_readDigit_24 rfl (lv_at hl 2 rfl) ?_
  refine x_goI (wn := XU g xa sa ln u sg) (x_rN (As := [.int ((sg u.1) - 48), .int a, .int b]) X (c_X5_isWithin l g ((sg u.1) - 48) a b _) yf_X5_isWithin ys_X5_isWithin hN.2.2.2.2.1 ⟨Nat.le_of_ble_eq_true rfl, Nat.le_of_ble_eq_true rfl⟩ hP hD (p_none _) hl rfl rfl (Nat.le_of_ble_eq_true rfl) dX4_readDigit_25 ⟨Nat.zero_le _, Nat.zero_le _⟩) hP hD hS hA (p_none _) (p_noneB _) (fun H locs hP hD hS => ?_)
  refine lv_if_ne (tgt := 33) hx hb dX4_readDigit_28 (by decide) (fun (c_2 : ¬ (isw ((sg u.1) - 48) a b) = 0) => ?_) (fun (c_2 : (isw ((sg u.1) - 48) a b) = 0) => ?_)
  · refine lv_aload_n hx hb dX4_readDigit_33 rfl (lv_at hl 0 rfl) ?_
    refine x_get (v := .ref sa) X 0 0 in_X4 hP rfl rfl (by decide) wF_X4_9 rfl rfl dX4_readDigit_34 ?_
    refine lv_aload_n hx hb dX4_readDigit_37 rfl (lv_at hl 0 rfl) ?_
    refine x_get (v := .int (nI u.1)) X 0 2 in_X4 hP rfl rfl (by decide) wF_X4_19 rfl rfl dX4_readDigit_38 ?_
    refine x_cald (v := (sg u.1)) X 1 u.1 hP rfl rfl (by omega) (Nat.le_of_ble_eq_true rfl) rfl dX4_readDigit_41 ?_
    refine lv_bipush (v := 48) hx hb dX4_readDigit_42 (by decide) ?_
    refine lv_isub hx hb dX4_readDigit_44 ?_
    refine lv_istore_n (lv' := [(3, .int ((sg u.1) - 48)), (0, .ref xa), (1, .int a), (2, .int b)]) hx hb dX4_readDigit_45 rfl hl (by decide) rfl (fun ls hl => ?_)
    refine lv_aload_n hx hb dX4_readDigit_46 rfl (lv_at hl 1 rfl) ?_
    refine lv_dup hx hb dX4_readDigit_47 rfl ?_
    refine x_get (v := .int (nI u.1)) X 0 2 in_X4 hP rfl rfl (by decide) wF_X4_19 rfl rfl dX4_readDigit_48 ?_
    refine lv_iconst (v := 1) hx hb dX4_readDigit_51 (by decide) ?_
    refine lv_iadd hx hb dX4_readDigit_52 ?_
    refine W.eq (g2 := F0 m 53 ls [.int (nI (u.1 + 1)), .ref xa]) (by rw [nI_1]) ?_
    refine x_put (v := .int (nI (u.1 + 1))) (ty0 := tyX4) (ws2 := XU g xa sa ln ((u.1 + 1), u.2.1, u.2.2.1, u.2.2.2.1, u.2.2.2.2) sg) X 0 2 in_X4 tyX4_ok nmX4 hP hD hS rfl rfl (by decide) wF_X4_19 rfl rfl rfl rfl (Nat.le_of_ble_eq_true rfl) rfl dX4_readDigit_53 (fun H locs hP hD hS => ?_)
    refine lv_iload_n hx hb dX4_readDigit_56 rfl (lv_at hl 0 rfl) ?_
    have E : (XU g xa sa ln ((u.1 + 1), u.2.1, u.2.2.1, u.2.2.2.1, u.2.2.2.2) sg : va_W) = (XU g xa sa ln ((rdF sg ln a b u.1).2, u.2.1, u.2.2.1, u.2.2.2.1, u.2.2.2.2) sg) := by simp only [rdF, if_pos hlt, if_neg c_2]
    exact x_iret X hr hlocks (pw E hP) (dw E hD) hS (by simp only [rdF, if_pos hlt, if_neg c_2]) dX4_readDigit_57
  · refine lv_iconst (v := (-1)) hx hb dX4_readDigit_31 (by decide) ?_
    have E : (XU g xa sa ln u sg : va_W) = (XU g xa sa ln ((rdF sg ln a b u.1).2, u.2.1, u.2.2.1, u.2.2.2.1, u.2.2.2.2) sg) := by simp only [rdF, if_pos hlt, if_pos c_2]
    exact x_iret X hr hlocks (pw E hP) (dw E hD) hS (by simp only [rdF, if_pos hlt, if_pos c_2]) dX4_readDigit_32

set_option maxHeartbeats 4000000 in
set_option maxRecDepth 100000 in
theorem c_X4_readDigit_B (l : Launch) (g : wG) (xa sa ln : Nat) (hln : ln ≤ 60) (u : RQ) (hp : u.1 ≤ ln) (sg : Nat → Int32) (a b : Int32) (hlt : ¬ u.1 < ln) : CtI l g 1 yX4_readDigit cX4_readDigit 4 (some .int) [.ref xa, .int a, .int b] (XU g xa sa ln u sg) ((rdF sg ln a b u.1).1) (XU g xa sa ln ((rdF sg ln a b u.1).2, u.2.1, u.2.2.1, u.2.2.2.1, u.2.2.2.2) sg) := by
  intro sz
  refine x_enter (Qc := fun A => QI g A ((rdF sg ln a b u.1).1) (XU g xa sa ln ((rdF sg ln a b u.1).2, u.2.1, u.2.2.1, u.2.2.2.1, u.2.2.2.2) sg)) (by decide) (Nat.le_of_ble_eq_true rfl) ?_
  intro p e s m args below meth c X hr hlocks A hA hP hD hS ls hl
  obtain ⟨⟨hx, hb, hml, hown, hts⟩, hK, hN⟩ := id X
  have hl : lv_has ls 4 [(0, .ref xa), (1, .int a), (2, .int b)] := hl
  refine lv_aload_n hx hb dX4_readDigit_0 rfl (lv_at hl 0 rfl) ?_
  refine x_get (v := .int (nI u.1)) X 0 2 in_X4 hP rfl rfl (by decide) wF_X4_19 rfl rfl dX4_readDigit_1 ?_
  refine lv_aload_n hx hb dX4_readDigit_4 rfl (lv_at hl 0 rfl) ?_
  refine x_get (v := .int (nI ln)) X 0 1 in_X4 hP rfl rfl (by decide) wF_X4_15 rfl rfl dX4_readDigit_5 ?_
  refine lv_icmp_ge (tgt := 31) hx hb dX4_readDigit_8 (by decide) (fun c_1 => ?_) (fun q9 => absurd (show (nI ln) ≤ (nI u.1) from (nI_le (by omega) (by omega))) (show ¬ ((nI ln) ≤ (nI u.1)) from q9))
  refine lv_iconst (v := (-1)) hx hb dX4_readDigit_31 (by decide) ?_
  have E : (XU g xa sa ln u sg : va_W) = (XU g xa sa ln ((rdF sg ln a b u.1).2, u.2.1, u.2.2.1, u.2.2.2.1, u.2.2.2.2) sg) := by simp only [rdF, if_neg hlt]
  exact x_iret X hr hlocks (pw E hP) (dw E hD) hS (by simp only [rdF, if_neg hlt]) dX4_readDigit_32

theorem c_X4_readDigit (l : Launch) (g : wG) (xa sa ln : Nat) (hln : ln ≤ 60) (u : RQ) (hp : u.1 ≤ ln) (sg : Nat → Int32) (a b : Int32) : CtI l g 1 yX4_readDigit cX4_readDigit 4 (some .int) [.ref xa, .int a, .int b] (XU g xa sa ln u sg) ((rdF sg ln a b u.1).1) (XU g xa sa ln ((rdF sg ln a b u.1).2, u.2.1, u.2.2.1, u.2.2.2.1, u.2.2.2.2) sg) := by
  by_cases hlt : u.1 < ln
  · exact c_X4_readDigit_A l g xa sa ln hln u hp sg a b hlt
  · exact c_X4_readDigit_B l g xa sa ln hln u hp sg a b hlt
set_option maxHeartbeats 4000000 in
set_option maxRecDepth 100000 in
theorem c_X4_readSign_A (l : Launch) (g : wG) (xa sa ln : Nat) (hln : ln ≤ 60) (u : RQ) (hp : u.1 ≤ ln) (sg : Nat → Int32) (x : Int32) (hlt : u.1 < ln) : CtI l g 0 yX4_readSign cX4_readSign 2 (some .boolean) [.ref xa, .int x] (XU g xa sa ln u sg) ((rsF sg ln x u.1).1) (XU g xa sa ln ((rsF sg ln x u.1).2, u.2.1, u.2.2.1, u.2.2.2.1, u.2.2.2.2) sg) := by
  intro sz
  refine x_enter (Qc := fun A => QI g A ((rsF sg ln x u.1).1) (XU g xa sa ln ((rsF sg ln x u.1).2, u.2.1, u.2.2.1, u.2.2.2.1, u.2.2.2.2) sg)) (by decide) (Nat.le_of_ble_eq_true rfl) ?_
  intro p e s m args below meth c X hr hlocks A hA hP hD hS ls hl
  obtain ⟨⟨hx, hb, hml, hown, hts⟩, hK, hN⟩ := id X
  have hl : lv_has ls 2 [(0, .ref xa), (1, .int x)] := hl
  refine lv_aload_n hx hb dX4_readSign_0 rfl (lv_at hl 0 rfl) ?_
  refine x_get (v := .int (nI u.1)) X 0 2 in_X4 hP rfl rfl (by decide) wF_X4_19 rfl rfl dX4_readSign_1 ?_
  refine lv_aload_n hx hb dX4_readSign_4 rfl (lv_at hl 0 rfl) ?_
  refine x_get (v := .int (nI ln)) X 0 1 in_X4 hP rfl rfl (by decide) wF_X4_15 rfl rfl dX4_readSign_5 ?_
  refine lv_icmp_ge (tgt := 24) hx hb dX4_readSign_8 (by decide) (fun q9 => absurd q9 (show ¬ (nI ln) ≤ (nI u.1) from (nI_ge hlt (by omega)))) (fun c_1 => ?_)
  refine lv_aload_n hx hb dX4_readSign_11 rfl (lv_at hl 0 rfl) ?_
  refine x_get (v := .ref sa) X 0 0 in_X4 hP rfl rfl (by decide) wF_X4_9 rfl rfl dX4_readSign_12 ?_
  refine lv_aload_n hx hb dX4_readSign_15 rfl (lv_at hl 0 rfl) ?_
  refine x_get (v := .int (nI u.1)) X 0 2 in_X4 hP rfl rfl (by decide) wF_X4_19 rfl rfl dX4_readSign_16 ?_
  refine x_cald (v := (sg u.1)) X 1 u.1 hP rfl rfl (by omega) (Nat.le_of_ble_eq_true rfl) rfl dX4_readSign_19 ?_
  refine lv_iload_n hx hb dX4_readSign_20 rfl (lv_at hl 1 rfl) ?_
  refine lv_icmp_eq (tgt := 26) hx hb dX4_readSign_21 (by decide) (fun (c_2 : (sg u.1) = x) => ?_) (fun (c_2 : ¬ (sg u.1) = x) => ?_)
  · refine lv_aload_n hx hb dX4_readSign_26 rfl (lv_at hl 0 rfl) ?_
    refine lv_dup hx hb dX4_readSign_27 rfl ?_
    refine x_get (v := .int (nI u.1)) X 0 2 in_X4 hP rfl rfl (by decide) wF_X4_19 rfl rfl dX4_readSign_28 ?_
    refine lv_iconst (v := 1) hx hb dX4_readSign_31 (by decide) ?_
    refine lv_iadd hx hb dX4_readSign_32 ?_
    refine W.eq (g2 := F0 m 33 ls [.int (nI (u.1 + 1)), .ref xa]) (by rw [nI_1]) ?_
    refine x_put (v := .int (nI (u.1 + 1))) (ty0 := tyX4) (ws2 := XU g xa sa ln ((u.1 + 1), u.2.1, u.2.2.1, u.2.2.2.1, u.2.2.2.2) sg) X 0 2 in_X4 tyX4_ok nmX4 hP hD hS rfl rfl (by decide) wF_X4_19 rfl rfl rfl rfl (Nat.le_of_ble_eq_true rfl) rfl dX4_readSign_33 (fun H locs hP hD hS => ?_)
    refine lv_iconst (v := 1) hx hb dX4_readSign_36 (by decide) ?_
    have E : (XU g xa sa ln ((u.1 + 1), u.2.1, u.2.2.1, u.2.2.2.1, u.2.2.2.2) sg : va_W) = (XU g xa sa ln ((rsF sg ln x u.1).2, u.2.1, u.2.2.1, u.2.2.2.1, u.2.2.2.2) sg) := by simp only [rsF, if_pos hlt, if_pos c_2]
    exact x_zret X hr hlocks rfl (pw E hP) (dw E hD) hS (by simp only [rsF, if_pos hlt, if_pos c_2]) dX4_readSign_37
  · refine lv_iconst (v := 0) hx hb dX4_readSign_24 (by decide) ?_
    have E : (XU g xa sa ln u sg : va_W) = (XU g xa sa ln ((rsF sg ln x u.1).2, u.2.1, u.2.2.1, u.2.2.2.1, u.2.2.2.2) sg) := by simp only [rsF, if_pos hlt, if_neg c_2]
    exact x_zret X hr hlocks rfl (pw E hP) (dw E hD) hS (by simp only [rsF, if_pos hlt, if_neg c_2]) dX4_readSign_25

set_option maxHeartbeats 4000000 in
set_option maxRecDepth 100000 in
theorem c_X4_readSign_B (l : Launch) (g : wG) (xa sa ln : Nat) (hln : ln ≤ 60) (u : RQ) (hp : u.1 ≤ ln) (sg : Nat → Int32) (x : Int32) (hlt : ¬ u.1 < ln) : CtI l g 0 yX4_readSign cX4_readSign 2 (some .boolean) [.ref xa, .int x] (XU g xa sa ln u sg) ((rsF sg ln x u.1).1) (XU g xa sa ln ((rsF sg ln x u.1).2, u.2.1, u.2.2.1, u.2.2.2.1, u.2.2.2.2) sg) := by
  intro sz
  refine x_enter (Qc := fun A => QI g A ((rsF sg ln x u.1).1) (XU g xa sa ln ((rsF sg ln x u.1).2, u.2.1, u.2.2.1, u.2.2.2.1, u.2.2.2.2) sg)) (by decide) (Nat.le_of_ble_eq_true rfl) ?_
  intro p e s m args below meth c X hr hlocks A hA hP hD hS ls hl
  obtain ⟨⟨hx, hb, hml, hown, hts⟩, hK, hN⟩ := id X
  have hl : lv_has ls 2 [(0, .ref xa), (1, .int x)] := hl
  refine lv_aload_n hx hb dX4_readSign_0 rfl (lv_at hl 0 rfl) ?_
  refine x_get (v := .int (nI u.1)) X 0 2 in_X4 hP rfl rfl (by decide) wF_X4_19 rfl rfl dX4_readSign_1 ?_
  refine lv_aload_n hx hb dX4_readSign_4 rfl (lv_at hl 0 rfl) ?_
  refine x_get (v := .int (nI ln)) X 0 1 in_X4 hP rfl rfl (by decide) wF_X4_15 rfl rfl dX4_readSign_5 ?_
  refine lv_icmp_ge (tgt := 24) hx hb dX4_readSign_8 (by decide) (fun c_1 => ?_) (fun q9 => absurd (show (nI ln) ≤ (nI u.1) from (nI_le (by omega) (by omega))) (show ¬ ((nI ln) ≤ (nI u.1)) from q9))
  refine lv_iconst (v := 0) hx hb dX4_readSign_24 (by decide) ?_
  have E : (XU g xa sa ln u sg : va_W) = (XU g xa sa ln ((rsF sg ln x u.1).2, u.2.1, u.2.2.1, u.2.2.2.1, u.2.2.2.2) sg) := by simp only [rsF, if_neg hlt]
  exact x_zret X hr hlocks rfl (pw E hP) (dw E hD) hS (by simp only [rsF, if_neg hlt]) dX4_readSign_25

theorem c_X4_readSign (l : Launch) (g : wG) (xa sa ln : Nat) (hln : ln ≤ 60) (u : RQ) (hp : u.1 ≤ ln) (sg : Nat → Int32) (x : Int32) : CtI l g 0 yX4_readSign cX4_readSign 2 (some .boolean) [.ref xa, .int x] (XU g xa sa ln u sg) ((rsF sg ln x u.1).1) (XU g xa sa ln ((rsF sg ln x u.1).2, u.2.1, u.2.2.1, u.2.2.2.1, u.2.2.2.2) sg) := by
  by_cases hlt : u.1 < ln
  · exact c_X4_readSign_A l g xa sa ln hln u hp sg x hlt
  · exact c_X4_readSign_B l g xa sa ln hln u hp sg x hlt
set_option maxHeartbeats 4000000 in
set_option maxRecDepth 100000 in
theorem c_X4_goToStart (l : Launch) (g : wG) (xa sa ln : Nat) (hln : ln ≤ 60) (u : RQ) (hp : u.1 ≤ ln) (sg : Nat → Int32) : CtV l g 0 yX4_goToStart cX4_goToStart 1 none [.ref xa] (XU g xa sa ln u sg) (XU g xa sa ln (0, u.2.1, u.2.2.1, u.2.2.2.1, u.2.2.2.2) sg) := by
  intro sz
  refine x_enter (Qc := fun A => QV g A (XU g xa sa ln (0, u.2.1, u.2.2.1, u.2.2.2.1, u.2.2.2.2) sg)) (by decide) (Nat.le_of_ble_eq_true rfl) ?_
  intro p e s m args below meth c X hr hlocks A hA hP hD hS ls hl
  obtain ⟨⟨hx, hb, hml, hown, hts⟩, hK, hN⟩ := id X
  have hl : lv_has ls 1 [(0, .ref xa)] := hl
  refine lv_aload_n hx hb dX4_goToStart_0 rfl (lv_at hl 0 rfl) ?_
  refine lv_iconst (v := 0) hx hb dX4_goToStart_1 (by decide) ?_
  refine x_put (v := .int 0) (ty0 := tyX4) (ws2 := XU g xa sa ln (0, u.2.1, u.2.2.1, u.2.2.2.1, u.2.2.2.2) sg) X 0 2 in_X4 tyX4_ok nmX4 hP hD hS rfl rfl (by decide) wF_X4_19 rfl rfl rfl rfl (Nat.le_of_ble_eq_true rfl) rfl dX4_goToStart_2 (fun H locs hP hD hS => ?_)
  exact x_vret X hr hlocks hP hD hS dX4_goToStart_5

def rfB (x : Int32) : Int32 := if x < 0 then 0 else 1
set_option maxHeartbeats 4000000 in
set_option maxRecDepth 100000 in
theorem c_X4_readFace (l : Launch) (g : wG) (xa sa ln : Nat) (hln : ln ≤ 60) (u : RQ) (hp : u.1 ≤ ln) (sg : Nat → Int32) : CtI l g 2 yX4_readFace cX4_readFace 1 (some .boolean) [.ref xa] (XU g xa sa ln u sg) (rfB (rdF sg ln 0 3 u.1).1) (XU g xa sa ln ((rdF sg ln 0 3 u.1).2, u.2.1, (rdF sg ln 0 3 u.1).1, u.2.2.2.1, u.2.2.2.2) sg) := by
  intro sz
  refine x_enter (Qc := fun A => QI g A (rfB (rdF sg ln 0 3 u.1).1) (XU g xa sa ln ((rdF sg ln 0 3 u.1).2, u.2.1, (rdF sg ln 0 3 u.1).1, u.2.2.2.1, u.2.2.2.2) sg)) (by decide) (Nat.le_of_ble_eq_true rfl) ?_
  intro p e s m args below meth c X hr hlocks A hA hP hD hS ls hl
  obtain ⟨⟨hx, hb, hml, hown, hts⟩, hK, hN⟩ := id X
  have hl : lv_has ls 1 [(0, .ref xa)] := hl
  refine lv_aload_n hx hb dX4_readFace_0 rfl (lv_at hl 0 rfl) ?_
  refine lv_aload_n hx hb dX4_readFace_1 rfl (lv_at hl 0 rfl) ?_
  refine lv_iconst (v := 0) hx hb dX4_readFace_2 (by decide) ?_
  refine lv_iconst (v := 3) hx hb dX4_readFace_3 (by decide) ?_
  refine x_goI (wn := XU g xa sa ln ((rdF sg ln 0 3 u.1).2, u.2.1, u.2.2.1, u.2.2.2.1, u.2.2.2.2) sg) (x_rV (As := [.int 0, .int 3]) X (c_X4_readDigit l g xa sa ln hln u hp sg 0 3 _) yf_X4_readDigit yi_X4_readDigit wM_X4_53 ⟨Nat.le_of_ble_eq_true rfl, Nat.le_of_ble_eq_true rfl⟩ hP hD (p_all _) 0 rfl rfl hl rfl rfl (Nat.le_of_ble_eq_true rfl) dX4_readFace_4 ⟨Nat.zero_le _, Nat.zero_le _⟩) hP hD hS hA (p_all _) (p_back _) (fun H locs hP hD hS => ?_)
  refine x_put (v := .int ((rdF sg ln 0 3 u.1).1)) (ty0 := tyX4) (ws2 := XU g xa sa ln ((rdF sg ln 0 3 u.1).2, u.2.1, ((rdF sg ln 0 3 u.1).1), u.2.2.2.1, u.2.2.2.2) sg) X 0 4 in_X4 tyX4_ok nmX4 hP hD hS rfl rfl (by decide) wF_X4_57 rfl rfl rfl rfl (Nat.le_of_ble_eq_true rfl) rfl dX4_readFace_7 (fun H locs hP hD hS => ?_)
  refine lv_aload_n hx hb dX4_readFace_10 rfl (lv_at hl 0 rfl) ?_
  refine x_get (v := .int ((rdF sg ln 0 3 u.1).1)) X 0 4 in_X4 hP rfl rfl (by decide) wF_X4_57 rfl rfl dX4_readFace_11 ?_
  refine lv_if_lt (tgt := 21) hx hb dX4_readFace_14 (by decide) (fun (c_1 : ((rdF sg ln 0 3 u.1).1) < 0) => ?_) (fun (c_1 : ¬ ((rdF sg ln 0 3 u.1).1) < 0) => ?_)
  · refine lv_iconst (v := 0) hx hb dX4_readFace_21 (by decide) ?_
    exact x_zret X hr hlocks rfl hP hD hS (by simp only [rfB, if_pos c_1]) dX4_readFace_22
  · refine lv_iconst (v := 1) hx hb dX4_readFace_17 (by decide) ?_
    refine lv_goto (tgt := 22) hx hb dX4_readFace_18 (by decide) ?_
    exact x_zret X hr hlocks rfl hP hD hS (by simp only [rfB, if_neg c_1]) dX4_readFace_22

theorem rfB_b (x : Int32) : rfB x = 0 ∨ rfB x = 1 := by
  unfold rfB; split
  · exact Or.inl rfl
  · exact Or.inr rfl
def rc2 (sg : Nat → Int32) (ln p : Nat) : Int32 × Nat := rdF sg ln 0 (if (rdF sg ln 0 2 p).1 = 2 then 3 else 9) (rdF sg ln 0 2 p).2
def rc3 (sg : Nat → Int32) (ln p : Nat) : Int32 × Nat := rsF sg ln 58 (rc2 sg ln p).2
def rc4 (sg : Nat → Int32) (ln p : Nat) : Int32 × Nat := rdF sg ln 0 5 (rc3 sg ln p).2
def rc5 (sg : Nat → Int32) (ln p : Nat) : Int32 × Nat := rdF sg ln 0 9 (rc4 sg ln p).2
def rcF (sg : Nat → Int32) (ln : Nat) (ck : Int32) (p : Nat) : Int32 × Nat × Int32 :=
  if 0 ≤ (rdF sg ln 0 2 p).1 then (if (rc2 sg ln p).1 < 0 then (0, (rc2 sg ln p).2, ck) else if (rc3 sg ln p).1 = 0 then (0, (rc3 sg ln p).2, ck) else if 0 ≤ (rc4 sg ln p).1 then (if 0 ≤ (rc5 sg ln p).1 then (1, (rc5 sg ln p).2, ((60 * ((10 * (rdF sg ln 0 2 p).1) + (rc2 sg ln p).1)) + (10 * (rc4 sg ln p).1)) + (rc5 sg ln p).1) else (0, (rc5 sg ln p).2, ck)) else (0, (rc4 sg ln p).2, ck)) else (0, (rdF sg ln 0 2 p).2, ck)
theorem rcF_le (sg : Nat → Int32) (ln : Nat) (ck : Int32) {p : Nat} (hp : p ≤ ln) : (rcF sg ln ck p).2.1 ≤ ln := by
  have h1 := rdF_le sg ln 0 2 hp
  have h2 : (rc2 sg ln p).2 ≤ ln := rdF_le sg ln _ _ h1
  have h3 : (rc3 sg ln p).2 ≤ ln := rsF_le sg ln _ h2
  have h4 : (rc4 sg ln p).2 ≤ ln := rdF_le sg ln _ _ h3
  have h5 : (rc5 sg ln p).2 ≤ ln := rdF_le sg ln _ _ h4
  unfold rcF
  split
  · split
    · exact h2
    · split
      · exact h3
      · split
        · split <;> exact h5
        · exact h4
  · exact h1
theorem rcF_b (sg : Nat → Int32) (ln : Nat) (ck : Int32) (p : Nat) : (rcF sg ln ck p).1 = 0 ∨ (rcF sg ln ck p).1 = 1 := by
  unfold rcF
  split
  · split
    · exact Or.inl rfl
    · split
      · exact Or.inl rfl
      · split
        · split
          · exact Or.inr rfl
          · exact Or.inl rfl
        · exact Or.inl rfl
  · exact Or.inl rfl
set_option maxHeartbeats 4000000 in
set_option maxRecDepth 100000 in
theorem c_X4_readClock (l : Launch) (g : wG) (xa sa ln : Nat) (hln : ln ≤ 60) (u : RQ) (hp : u.1 ≤ ln) (sg : Nat → Int32) : CtI l g 2 yX4_readClock cX4_readClock 5 (some .boolean) [.ref xa] (XU g xa sa ln u sg) ((rcF sg ln u.2.2.2.1 u.1).1) (XU g xa sa ln ((rcF sg ln u.2.2.2.1 u.1).2.1, u.2.1, u.2.2.1, (rcF sg ln u.2.2.2.1 u.1).2.2, u.2.2.2.2) sg) := by
  intro sz
  refine x_enter (Qc := fun A => QI g A ((rcF sg ln u.2.2.2.1 u.1).1) (XU g xa sa ln ((rcF sg ln u.2.2.2.1 u.1).2.1, u.2.1, u.2.2.1, (rcF sg ln u.2.2.2.1 u.1).2.2, u.2.2.2.2) sg)) (by decide) (Nat.le_of_ble_eq_true rfl) ?_
  intro p e s m args below meth c X hr hlocks A hA hP hD hS ls hl
  obtain ⟨⟨hx, hb, hml, hown, hts⟩, hK, hN⟩ := id X
  have hl : lv_has ls 5 [(0, .ref xa)] := hl
  refine lv_aload_n hx hb dX4_readClock_0 rfl (lv_at hl 0 rfl) ?_
  refine lv_iconst (v := 0) hx hb dX4_readClock_1 (by decide) ?_
  refine lv_iconst (v := 2) hx hb dX4_readClock_2 (by decide) ?_
  refine x_goI (wn := XU g xa sa ln ((rdF sg ln 0 2 u.1).2, u.2.1, u.2.2.1, u.2.2.2.1, u.2.2.2.2) sg) (x_rV (As := [.int 0, .int 2]) X (c_X4_readDigit l g xa sa ln hln u hp sg 0 2 _) yf_X4_readDigit yi_X4_readDigit wM_X4_53 ⟨Nat.le_of_ble_eq_true rfl, Nat.le_of_ble_eq_true rfl⟩ hP hD (p_all _) 0 rfl rfl hl rfl rfl (Nat.le_of_ble_eq_true rfl) dX4_readClock_3 ⟨Nat.zero_le _, Nat.zero_le _⟩) hP hD hS hA (p_all _) (p_back _) (fun H locs hP hD hS => ?_)
  refine lv_istore_n (lv' := [(1, .int ((rdF sg ln 0 2 u.1).1)), (0, .ref xa)]) hx hb dX4_readClock_6 rfl hl (by decide) rfl (fun ls hl => ?_)
  refine lv_iload_n hx hb dX4_readClock_7 rfl (lv_at hl 0 rfl) ?_
  refine lv_if_ge (tgt := 13) hx hb dX4_readClock_8 (by decide) (fun (c_1 : 0 ≤ ((rdF sg ln 0 2 u.1).1)) => ?_) (fun (c_1 : ¬ 0 ≤ ((rdF sg ln 0 2 u.1).1)) => ?_)
  · refine lv_aload_n hx hb dX4_readClock_13 rfl (lv_at hl 1 rfl) ?_
    refine lv_iconst (v := 0) hx hb dX4_readClock_14 (by decide) ?_
    refine lv_iload_n hx hb dX4_readClock_15 rfl (lv_at hl 0 rfl) ?_
    refine lv_iconst (v := 2) hx hb dX4_readClock_16 (by decide) ?_
    refine lv_icmp_ne (tgt := 24) hx hb dX4_readClock_17 (by decide) (fun (c_2 : ¬ ((rdF sg ln 0 2 u.1).1) = 2) => ?_) (fun (c_2 : ((rdF sg ln 0 2 u.1).1) = 2) => ?_)
    · refine lv_bipush (v := 9) hx hb dX4_readClock_24 (by decide) ?_
      refine x_goI (wn := XU g xa sa ln ((rdF sg ln 0 9 ((rdF sg ln 0 2 u.1).2)).2, u.2.1, u.2.2.1, u.2.2.2.1, u.2.2.2.2) sg) (x_rV (As := [.int 0, .int 9]) X (c_X4_readDigit l g xa sa ln hln ((rdF sg ln 0 2 u.1).2, u.2.1, u.2.2.1, u.2.2.2.1, u.2.2.2.2) (rdF_le sg ln 0 2 hp) sg 0 9 _) yf_X4_readDigit yi_X4_readDigit wM_X4_53 ⟨Nat.le_of_ble_eq_true rfl, Nat.le_of_ble_eq_true rfl⟩ hP hD (p_all _) 0 rfl rfl hl rfl rfl (Nat.le_of_ble_eq_true rfl) dX4_readClock_26 ⟨Nat.zero_le _, Nat.zero_le _⟩) hP hD hS hA (p_all _) (p_back _) (fun H locs hP hD hS => ?_)
      refine lv_istore_n (lv' := [(2, .int ((rdF sg ln 0 9 ((rdF sg ln 0 2 u.1).2)).1)), (1, .int ((rdF sg ln 0 2 u.1).1)), (0, .ref xa)]) hx hb dX4_readClock_29 rfl hl (by decide) rfl (fun ls hl => ?_)
      refine lv_iload_n hx hb dX4_readClock_30 rfl (lv_at hl 0 rfl) ?_
      refine lv_if_lt (tgt := 43) hx hb dX4_readClock_31 (by decide) (fun (c_3 : ((rdF sg ln 0 9 ((rdF sg ln 0 2 u.1).2)).1) < 0) => ?_) (fun (c_3 : ¬ ((rdF sg ln 0 9 ((rdF sg ln 0 2 u.1).2)).1) < 0) => ?_)
      · refine lv_iconst (v := 0) hx hb dX4_readClock_43 (by decide) ?_
        have E : (XU g xa sa ln ((rdF sg ln 0 9 ((rdF sg ln 0 2 u.1).2)).2, u.2.1, u.2.2.1, u.2.2.2.1, u.2.2.2.2) sg : va_W) = (XU g xa sa ln ((rcF sg ln u.2.2.2.1 u.1).2.1, u.2.1, u.2.2.1, (rcF sg ln u.2.2.2.1 u.1).2.2, u.2.2.2.2) sg) := by simp only [rcF, rc5, rc4, rc3, rc2, if_pos c_1, if_neg c_2, if_pos c_3]
        exact x_zret X hr hlocks rfl (pw E hP) (dw E hD) hS (by simp only [rcF, rc5, rc4, rc3, rc2, if_pos c_1, if_neg c_2, if_pos c_3]) dX4_readClock_44
      · refine lv_aload_n hx hb dX4_readClock_34 rfl (lv_at hl 2 rfl) ?_
        refine lv_bipush (v := 58) hx hb dX4_readClock_35 (by decide) ?_
        refine x_goI (wn := XU g xa sa ln ((rsF sg ln 58 ((rdF sg ln 0 9 ((rdF sg ln 0 2 u.1).2)).2)).2, u.2.1, u.2.2.1, u.2.2.2.1, u.2.2.2.2) sg) (x_rV (As := [.int 58]) X (c_X4_readSign l g xa sa ln hln ((rdF sg ln 0 9 ((rdF sg ln 0 2 u.1).2)).2, u.2.1, u.2.2.1, u.2.2.2.1, u.2.2.2.2) (rdF_le sg ln 0 9 (rdF_le sg ln 0 2 hp)) sg 58 _) yf_X4_readSign yi_X4_readSign wM_X4_29 ⟨Nat.le_of_ble_eq_true rfl, Nat.le_of_ble_eq_true rfl⟩ hP hD (p_all _) 0 rfl rfl hl rfl rfl (Nat.le_of_ble_eq_true rfl) dX4_readClock_37 ⟨Nat.zero_le _, Nat.zero_le _⟩) hP hD hS hA (p_all _) (p_back _) (fun H locs hP hD hS => ?_)
        refine lv_if_ne (tgt := 45) hx hb dX4_readClock_40 (by decide) (fun (c_4 : ¬ ((rsF sg ln 58 ((rdF sg ln 0 9 ((rdF sg ln 0 2 u.1).2)).2)).1) = 0) => ?_) (fun (c_4 : ((rsF sg ln 58 ((rdF sg ln 0 9 ((rdF sg ln 0 2 u.1).2)).2)).1) = 0) => ?_)
        · refine lv_aload_n hx hb dX4_readClock_45 rfl (lv_at hl 2 rfl) ?_
          refine lv_iconst (v := 0) hx hb dX4_readClock_46 (by decide) ?_
          refine lv_iconst (v := 5) hx hb dX4_readClock_47 (by decide) ?_
          refine x_goI (wn := XU g xa sa ln ((rdF sg ln 0 5 ((rsF sg ln 58 ((rdF sg ln 0 9 ((rdF sg ln 0 2 u.1).2)).2)).2)).2, u.2.1, u.2.2.1, u.2.2.2.1, u.2.2.2.2) sg) (x_rV (As := [.int 0, .int 5]) X (c_X4_readDigit l g xa sa ln hln ((rsF sg ln 58 ((rdF sg ln 0 9 ((rdF sg ln 0 2 u.1).2)).2)).2, u.2.1, u.2.2.1, u.2.2.2.1, u.2.2.2.2) (rsF_le sg ln 58 (rdF_le sg ln 0 9 (rdF_le sg ln 0 2 hp))) sg 0 5 _) yf_X4_readDigit yi_X4_readDigit wM_X4_53 ⟨Nat.le_of_ble_eq_true rfl, Nat.le_of_ble_eq_true rfl⟩ hP hD (p_all _) 0 rfl rfl hl rfl rfl (Nat.le_of_ble_eq_true rfl) dX4_readClock_48 ⟨Nat.zero_le _, Nat.zero_le _⟩) hP hD hS hA (p_all _) (p_back _) (fun H locs hP hD hS => ?_)
          refine lv_istore_n (lv' := [(3, .int ((rdF sg ln 0 5 ((rsF sg ln 58 ((rdF sg ln 0 9 ((rdF sg ln 0 2 u.1).2)).2)).2)).1)), (2, .int ((rdF sg ln 0 9 ((rdF sg ln 0 2 u.1).2)).1)), (1, .int ((rdF sg ln 0 2 u.1).1)), (0, .ref xa)]) hx hb dX4_readClock_51 rfl hl (by decide) rfl (fun ls hl => ?_)
          refine lv_iload_n hx hb dX4_readClock_52 rfl (lv_at hl 0 rfl) ?_
          refine lv_if_ge (tgt := 58) hx hb dX4_readClock_53 (by decide) (fun (c_5 : 0 ≤ ((rdF sg ln 0 5 ((rsF sg ln 58 ((rdF sg ln 0 9 ((rdF sg ln 0 2 u.1).2)).2)).2)).1)) => ?_) (fun (c_5 : ¬ 0 ≤ ((rdF sg ln 0 5 ((rsF sg ln 58 ((rdF sg ln 0 9 ((rdF sg ln 0 2 u.1).2)).2)).2)).1)) => ?_)
          · refine lv_aload_n hx hb dX4_readClock_58 rfl (lv_at hl 3 rfl) ?_
            refine lv_iconst (v := 0) hx hb dX4_readClock_59 (by decide) ?_
            refine lv_bipush (v := 9) hx hb dX4_readClock_60 (by decide) ?_
            refine x_goI (wn := XU g xa sa ln ((rdF sg ln 0 9 ((rdF sg ln 0 5 ((rsF sg ln 58 ((rdF sg ln 0 9 ((rdF sg ln 0 2 u.1).2)).2)).2)).2)).2, u.2.1, u.2.2.1, u.2.2.2.1, u.2.2.2.2) sg) (x_rV (As := [.int 0, .int 9]) X (c_X4_readDigit l g xa sa ln hln ((rdF sg ln 0 5 ((rsF sg ln 58 ((rdF sg ln 0 9 ((rdF sg ln 0 2 u.1).2)).2)).2)).2, u.2.1, u.2.2.1, u.2.2.2.1, u.2.2.2.2) (rdF_le sg ln 0 5 (rsF_le sg ln 58 (rdF_le sg ln 0 9 (rdF_le sg ln 0 2 hp)))) sg 0 9 _) yf_X4_readDigit yi_X4_readDigit wM_X4_53 ⟨Nat.le_of_ble_eq_true rfl, Nat.le_of_ble_eq_true rfl⟩ hP hD (p_all _) 0 rfl rfl hl rfl rfl (Nat.le_of_ble_eq_true rfl) dX4_readClock_62 ⟨Nat.zero_le _, Nat.zero_le _⟩) hP hD hS hA (p_all _) (p_back _) (fun H locs hP hD hS => ?_)
            refine lv_istore (lv' := [(4, .int ((rdF sg ln 0 9 ((rdF sg ln 0 5 ((rsF sg ln 58 ((rdF sg ln 0 9 ((rdF sg ln 0 2 u.1).2)).2)).2)).2)).1)), (3, .int ((rdF sg ln 0 5 ((rsF sg ln 58 ((rdF sg ln 0 9 ((rdF sg ln 0 2 u.1).2)).2)).2)).1)), (2, .int ((rdF sg ln 0 9 ((rdF sg ln 0 2 u.1).2)).1)), (1, .int ((rdF sg ln 0 2 u.1).1)), (0, .ref xa)]) hx hb dX4_readClock_65 hl (by decide) rfl (fun ls hl => ?_)
            refine lv_iload hx hb dX4_readClock_67 (lv_at hl 0 rfl) ?_
            refine lv_if_ge (tgt := 74) hx hb dX4_readClock_69 (by decide) (fun (c_6 : 0 ≤ ((rdF sg ln 0 9 ((rdF sg ln 0 5 ((rsF sg ln 58 ((rdF sg ln 0 9 ((rdF sg ln 0 2 u.1).2)).2)).2)).2)).1)) => ?_) (fun (c_6 : ¬ 0 ≤ ((rdF sg ln 0 9 ((rdF sg ln 0 5 ((rsF sg ln 58 ((rdF sg ln 0 9 ((rdF sg ln 0 2 u.1).2)).2)).2)).2)).1)) => ?_)
            · refine lv_aload_n hx hb dX4_readClock_74 rfl (lv_at hl 4 rfl) ?_
              refine lv_bipush (v := 60) hx hb dX4_readClock_75 (by decide) ?_
              refine lv_bipush (v := 10) hx hb dX4_readClock_77 (by decide) ?_
              refine lv_iload_n hx hb dX4_readClock_79 rfl (lv_at hl 3 rfl) ?_
              refine lv_imul hx hb dX4_readClock_80 ?_
              refine lv_iload_n hx hb dX4_readClock_81 rfl (lv_at hl 2 rfl) ?_
              refine lv_iadd hx hb dX4_readClock_82 ?_
              refine lv_imul hx hb dX4_readClock_83 ?_
              refine lv_bipush (v := 10) hx hb dX4_readClock_84 (by decide) ?_
              refine lv_iload_n hx hb dX4_readClock_86 rfl (lv_at hl 1 rfl) ?_
              refine lv_imul hx hb dX4_readClock_87 ?_
              refine lv_iadd hx hb dX4_readClock_88 ?_
              refine lv_iload hx hb dX4_readClock_89 (lv_at hl 0 rfl) ?_
              refine lv_iadd hx hb dX4_readClock_91 ?_
              refine x_put (v := .int (((60 * ((10 * ((rdF sg ln 0 2 u.1).1)) + ((rdF sg ln 0 9 ((rdF sg ln 0 2 u.1).2)).1))) + (10 * ((rdF sg ln 0 5 ((rsF sg ln 58 ((rdF sg ln 0 9 ((rdF sg ln 0 2 u.1).2)).2)).2)).1))) + ((rdF sg ln 0 9 ((rdF sg ln 0 5 ((rsF sg ln 58 ((rdF sg ln 0 9 ((rdF sg ln 0 2 u.1).2)).2)).2)).2)).1))) (ty0 := tyX4) (ws2 := XU g xa sa ln ((rdF sg ln 0 9 ((rdF sg ln 0 5 ((rsF sg ln 58 ((rdF sg ln 0 9 ((rdF sg ln 0 2 u.1).2)).2)).2)).2)).2, u.2.1, u.2.2.1, (((60 * ((10 * ((rdF sg ln 0 2 u.1).1)) + ((rdF sg ln 0 9 ((rdF sg ln 0 2 u.1).2)).1))) + (10 * ((rdF sg ln 0 5 ((rsF sg ln 58 ((rdF sg ln 0 9 ((rdF sg ln 0 2 u.1).2)).2)).2)).1))) + ((rdF sg ln 0 9 ((rdF sg ln 0 5 ((rsF sg ln 58 ((rdF sg ln 0 9 ((rdF sg ln 0 2 u.1).2)).2)).2)).2)).1)), u.2.2.2.2) sg) X 0 5 in_X4 tyX4_ok nmX4 hP hD hS rfl rfl (by decide) wF_X4_60 rfl rfl rfl rfl (Nat.le_of_ble_eq_true rfl) rfl dX4_readClock_92 (fun H locs hP hD hS => ?_)
              refine lv_iconst (v := 1) hx hb dX4_readClock_95 (by decide) ?_
              have E : (XU g xa sa ln ((rdF sg ln 0 9 ((rdF sg ln 0 5 ((rsF sg ln 58 ((rdF sg ln 0 9 ((rdF sg ln 0 2 u.1).2)).2)).2)).2)).2, u.2.1, u.2.2.1, (((60 * ((10 * ((rdF sg ln 0 2 u.1).1)) + ((rdF sg ln 0 9 ((rdF sg ln 0 2 u.1).2)).1))) + (10 * ((rdF sg ln 0 5 ((rsF sg ln 58 ((rdF sg ln 0 9 ((rdF sg ln 0 2 u.1).2)).2)).2)).1))) + ((rdF sg ln 0 9 ((rdF sg ln 0 5 ((rsF sg ln 58 ((rdF sg ln 0 9 ((rdF sg ln 0 2 u.1).2)).2)).2)).2)).1)), u.2.2.2.2) sg : va_W) = (XU g xa sa ln ((rcF sg ln u.2.2.2.1 u.1).2.1, u.2.1, u.2.2.1, (rcF sg ln u.2.2.2.1 u.1).2.2, u.2.2.2.2) sg) := by simp only [rcF, rc5, rc4, rc3, rc2, if_pos c_1, if_neg c_2, if_neg c_3, if_neg c_4, if_pos c_5, if_pos c_6]
              exact x_zret X hr hlocks rfl (pw E hP) (dw E hD) hS (by simp only [rcF, rc5, rc4, rc3, rc2, if_pos c_1, if_neg c_2, if_neg c_3, if_neg c_4, if_pos c_5, if_pos c_6]) dX4_readClock_96
            · refine lv_iconst (v := 0) hx hb dX4_readClock_72 (by decide) ?_
              have E : (XU g xa sa ln ((rdF sg ln 0 9 ((rdF sg ln 0 5 ((rsF sg ln 58 ((rdF sg ln 0 9 ((rdF sg ln 0 2 u.1).2)).2)).2)).2)).2, u.2.1, u.2.2.1, u.2.2.2.1, u.2.2.2.2) sg : va_W) = (XU g xa sa ln ((rcF sg ln u.2.2.2.1 u.1).2.1, u.2.1, u.2.2.1, (rcF sg ln u.2.2.2.1 u.1).2.2, u.2.2.2.2) sg) := by simp only [rcF, rc5, rc4, rc3, rc2, if_pos c_1, if_neg c_2, if_neg c_3, if_neg c_4, if_pos c_5, if_neg c_6]
              exact x_zret X hr hlocks rfl (pw E hP) (dw E hD) hS (by simp only [rcF, rc5, rc4, rc3, rc2, if_pos c_1, if_neg c_2, if_neg c_3, if_neg c_4, if_pos c_5, if_neg c_6]) dX4_readClock_73
          · refine lv_iconst (v := 0) hx hb dX4_readClock_56 (by decide) ?_
            have E : (XU g xa sa ln ((rdF sg ln 0 5 ((rsF sg ln 58 ((rdF sg ln 0 9 ((rdF sg ln 0 2 u.1).2)).2)).2)).2, u.2.1, u.2.2.1, u.2.2.2.1, u.2.2.2.2) sg : va_W) = (XU g xa sa ln ((rcF sg ln u.2.2.2.1 u.1).2.1, u.2.1, u.2.2.1, (rcF sg ln u.2.2.2.1 u.1).2.2, u.2.2.2.2) sg) := by simp only [rcF, rc5, rc4, rc3, rc2, if_pos c_1, if_neg c_2, if_neg c_3, if_neg c_4, if_neg c_5]
            exact x_zret X hr hlocks rfl (pw E hP) (dw E hD) hS (by simp only [rcF, rc5, rc4, rc3, rc2, if_pos c_1, if_neg c_2, if_neg c_3, if_neg c_4, if_neg c_5]) dX4_readClock_57
        · refine lv_iconst (v := 0) hx hb dX4_readClock_43 (by decide) ?_
          have E : (XU g xa sa ln ((rsF sg ln 58 ((rdF sg ln 0 9 ((rdF sg ln 0 2 u.1).2)).2)).2, u.2.1, u.2.2.1, u.2.2.2.1, u.2.2.2.2) sg : va_W) = (XU g xa sa ln ((rcF sg ln u.2.2.2.1 u.1).2.1, u.2.1, u.2.2.1, (rcF sg ln u.2.2.2.1 u.1).2.2, u.2.2.2.2) sg) := by simp only [rcF, rc5, rc4, rc3, rc2, if_pos c_1, if_neg c_2, if_neg c_3, if_pos c_4]
          exact x_zret X hr hlocks rfl (pw E hP) (dw E hD) hS (by simp only [rcF, rc5, rc4, rc3, rc2, if_pos c_1, if_neg c_2, if_neg c_3, if_pos c_4]) dX4_readClock_44
    · refine lv_iconst (v := 3) hx hb dX4_readClock_20 (by decide) ?_
      refine lv_goto (tgt := 26) hx hb dX4_readClock_21 (by decide) ?_
      refine x_goI (wn := XU g xa sa ln ((rdF sg ln 0 3 ((rdF sg ln 0 2 u.1).2)).2, u.2.1, u.2.2.1, u.2.2.2.1, u.2.2.2.2) sg) (x_rV (As := [.int 0, .int 3]) X (c_X4_readDigit l g xa sa ln hln ((rdF sg ln 0 2 u.1).2, u.2.1, u.2.2.1, u.2.2.2.1, u.2.2.2.2) (rdF_le sg ln 0 2 hp) sg 0 3 _) yf_X4_readDigit yi_X4_readDigit wM_X4_53 ⟨Nat.le_of_ble_eq_true rfl, Nat.le_of_ble_eq_true rfl⟩ hP hD (p_all _) 0 rfl rfl hl rfl rfl (Nat.le_of_ble_eq_true rfl) dX4_readClock_26 ⟨Nat.zero_le _, Nat.zero_le _⟩) hP hD hS hA (p_all _) (p_back _) (fun H locs hP hD hS => ?_)
      refine lv_istore_n (lv' := [(2, .int ((rdF sg ln 0 3 ((rdF sg ln 0 2 u.1).2)).1)), (1, .int ((rdF sg ln 0 2 u.1).1)), (0, .ref xa)]) hx hb dX4_readClock_29 rfl hl (by decide) rfl (fun ls hl => ?_)
      refine lv_iload_n hx hb dX4_readClock_30 rfl (lv_at hl 0 rfl) ?_
      refine lv_if_lt (tgt := 43) hx hb dX4_readClock_31 (by decide) (fun (c_7 : ((rdF sg ln 0 3 ((rdF sg ln 0 2 u.1).2)).1) < 0) => ?_) (fun (c_7 : ¬ ((rdF sg ln 0 3 ((rdF sg ln 0 2 u.1).2)).1) < 0) => ?_)
      · refine lv_iconst (v := 0) hx hb dX4_readClock_43 (by decide) ?_
        have E : (XU g xa sa ln ((rdF sg ln 0 3 ((rdF sg ln 0 2 u.1).2)).2, u.2.1, u.2.2.1, u.2.2.2.1, u.2.2.2.2) sg : va_W) = (XU g xa sa ln ((rcF sg ln u.2.2.2.1 u.1).2.1, u.2.1, u.2.2.1, (rcF sg ln u.2.2.2.1 u.1).2.2, u.2.2.2.2) sg) := by simp only [rcF, rc5, rc4, rc3, rc2, if_pos c_1, if_pos c_2, if_pos c_7]
        exact x_zret X hr hlocks rfl (pw E hP) (dw E hD) hS (by simp only [rcF, rc5, rc4, rc3, rc2, if_pos c_1, if_pos c_2, if_pos c_7]) dX4_readClock_44
      · refine lv_aload_n hx hb dX4_readClock_34 rfl (lv_at hl 2 rfl) ?_
        refine lv_bipush (v := 58) hx hb dX4_readClock_35 (by decide) ?_
        refine x_goI (wn := XU g xa sa ln ((rsF sg ln 58 ((rdF sg ln 0 3 ((rdF sg ln 0 2 u.1).2)).2)).2, u.2.1, u.2.2.1, u.2.2.2.1, u.2.2.2.2) sg) (x_rV (As := [.int 58]) X (c_X4_readSign l g xa sa ln hln ((rdF sg ln 0 3 ((rdF sg ln 0 2 u.1).2)).2, u.2.1, u.2.2.1, u.2.2.2.1, u.2.2.2.2) (rdF_le sg ln 0 3 (rdF_le sg ln 0 2 hp)) sg 58 _) yf_X4_readSign yi_X4_readSign wM_X4_29 ⟨Nat.le_of_ble_eq_true rfl, Nat.le_of_ble_eq_true rfl⟩ hP hD (p_all _) 0 rfl rfl hl rfl rfl (Nat.le_of_ble_eq_true rfl) dX4_readClock_37 ⟨Nat.zero_le _, Nat.zero_le _⟩) hP hD hS hA (p_all _) (p_back _) (fun H locs hP hD hS => ?_)
        refine lv_if_ne (tgt := 45) hx hb dX4_readClock_40 (by decide) (fun (c_8 : ¬ ((rsF sg ln 58 ((rdF sg ln 0 3 ((rdF sg ln 0 2 u.1).2)).2)).1) = 0) => ?_) (fun (c_8 : ((rsF sg ln 58 ((rdF sg ln 0 3 ((rdF sg ln 0 2 u.1).2)).2)).1) = 0) => ?_)
        · refine lv_aload_n hx hb dX4_readClock_45 rfl (lv_at hl 2 rfl) ?_
          refine lv_iconst (v := 0) hx hb dX4_readClock_46 (by decide) ?_
          refine lv_iconst (v := 5) hx hb dX4_readClock_47 (by decide) ?_
          refine x_goI (wn := XU g xa sa ln ((rdF sg ln 0 5 ((rsF sg ln 58 ((rdF sg ln 0 3 ((rdF sg ln 0 2 u.1).2)).2)).2)).2, u.2.1, u.2.2.1, u.2.2.2.1, u.2.2.2.2) sg) (x_rV (As := [.int 0, .int 5]) X (c_X4_readDigit l g xa sa ln hln ((rsF sg ln 58 ((rdF sg ln 0 3 ((rdF sg ln 0 2 u.1).2)).2)).2, u.2.1, u.2.2.1, u.2.2.2.1, u.2.2.2.2) (rsF_le sg ln 58 (rdF_le sg ln 0 3 (rdF_le sg ln 0 2 hp))) sg 0 5 _) yf_X4_readDigit yi_X4_readDigit wM_X4_53 ⟨Nat.le_of_ble_eq_true rfl, Nat.le_of_ble_eq_true rfl⟩ hP hD (p_all _) 0 rfl rfl hl rfl rfl (Nat.le_of_ble_eq_true rfl) dX4_readClock_48 ⟨Nat.zero_le _, Nat.zero_le _⟩) hP hD hS hA (p_all _) (p_back _) (fun H locs hP hD hS => ?_)
          refine lv_istore_n (lv' := [(3, .int ((rdF sg ln 0 5 ((rsF sg ln 58 ((rdF sg ln 0 3 ((rdF sg ln 0 2 u.1).2)).2)).2)).1)), (2, .int ((rdF sg ln 0 3 ((rdF sg ln 0 2 u.1).2)).1)), (1, .int ((rdF sg ln 0 2 u.1).1)), (0, .ref xa)]) hx hb dX4_readClock_51 rfl hl (by decide) rfl (fun ls hl => ?_)
          refine lv_iload_n hx hb dX4_readClock_52 rfl (lv_at hl 0 rfl) ?_
          refine lv_if_ge (tgt := 58) hx hb dX4_readClock_53 (by decide) (fun (c_9 : 0 ≤ ((rdF sg ln 0 5 ((rsF sg ln 58 ((rdF sg ln 0 3 ((rdF sg ln 0 2 u.1).2)).2)).2)).1)) => ?_) (fun (c_9 : ¬ 0 ≤ ((rdF sg ln 0 5 ((rsF sg ln 58 ((rdF sg ln 0 3 ((rdF sg ln 0 2 u.1).2)).2)).2)).1)) => ?_)
          · refine lv_aload_n hx hb dX4_readClock_58 rfl (lv_at hl 3 rfl) ?_
            refine lv_iconst (v := 0) hx hb dX4_readClock_59 (by decide) ?_
            refine lv_bipush (v := 9) hx hb dX4_readClock_60 (by decide) ?_
            refine x_goI (wn := XU g xa sa ln ((rdF sg ln 0 9 ((rdF sg ln 0 5 ((rsF sg ln 58 ((rdF sg ln 0 3 ((rdF sg ln 0 2 u.1).2)).2)).2)).2)).2, u.2.1, u.2.2.1, u.2.2.2.1, u.2.2.2.2) sg) (x_rV (As := [.int 0, .int 9]) X (c_X4_readDigit l g xa sa ln hln ((rdF sg ln 0 5 ((rsF sg ln 58 ((rdF sg ln 0 3 ((rdF sg ln 0 2 u.1).2)).2)).2)).2, u.2.1, u.2.2.1, u.2.2.2.1, u.2.2.2.2) (rdF_le sg ln 0 5 (rsF_le sg ln 58 (rdF_le sg ln 0 3 (rdF_le sg ln 0 2 hp)))) sg 0 9 _) yf_X4_readDigit yi_X4_readDigit wM_X4_53 ⟨Nat.le_of_ble_eq_true rfl, Nat.le_of_ble_eq_true rfl⟩ hP hD (p_all _) 0 rfl rfl hl rfl rfl (Nat.le_of_ble_eq_true rfl) dX4_readClock_62 ⟨Nat.zero_le _, Nat.zero_le _⟩) hP hD hS hA (p_all _) (p_back _) (fun H locs hP hD hS => ?_)
            refine lv_istore (lv' := [(4, .int ((rdF sg ln 0 9 ((rdF sg ln 0 5 ((rsF sg ln 58 ((rdF sg ln 0 3 ((rdF sg ln 0 2 u.1).2)).2)).2)).2)).1)), (3, .int ((rdF sg ln 0 5 ((rsF sg ln 58 ((rdF sg ln 0 3 ((rdF sg ln 0 2 u.1).2)).2)).2)).1)), (2, .int ((rdF sg ln 0 3 ((rdF sg ln 0 2 u.1).2)).1)), (1, .int ((rdF sg ln 0 2 u.1).1)), (0, .ref xa)]) hx hb dX4_readClock_65 hl (by decide) rfl (fun ls hl => ?_)
            refine lv_iload hx hb dX4_readClock_67 (lv_at hl 0 rfl) ?_
            refine lv_if_ge (tgt := 74) hx hb dX4_readClock_69 (by decide) (fun (c_10 : 0 ≤ ((rdF sg ln 0 9 ((rdF sg ln 0 5 ((rsF sg ln 58 ((rdF sg ln 0 3 ((rdF sg ln 0 2 u.1).2)).2)).2)).2)).1)) => ?_) (fun (c_10 : ¬ 0 ≤ ((rdF sg ln 0 9 ((rdF sg ln 0 5 ((rsF sg ln 58 ((rdF sg ln 0 3 ((rdF sg ln 0 2 u.1).2)).2)).2)).2)).1)) => ?_)
            · refine lv_aload_n hx hb dX4_readClock_74 rfl (lv_at hl 4 rfl) ?_
              refine lv_bipush (v := 60) hx hb dX4_readClock_75 (by decide) ?_
              refine lv_bipush (v := 10) hx hb dX4_readClock_77 (by decide) ?_
              refine lv_iload_n hx hb dX4_readClock_79 rfl (lv_at hl 3 rfl) ?_
              refine lv_imul hx hb dX4_readClock_80 ?_
              refine lv_iload_n hx hb dX4_readClock_81 rfl (lv_at hl 2 rfl) ?_
              refine lv_iadd hx hb dX4_readClock_82 ?_
              refine lv_imul hx hb dX4_readClock_83 ?_
              refine lv_bipush (v := 10) hx hb dX4_readClock_84 (by decide) ?_
              refine lv_iload_n hx hb dX4_readClock_86 rfl (lv_at hl 1 rfl) ?_
              refine lv_imul hx hb dX4_readClock_87 ?_
              refine lv_iadd hx hb dX4_readClock_88 ?_
              refine lv_iload hx hb dX4_readClock_89 (lv_at hl 0 rfl) ?_
              refine lv_iadd hx hb dX4_readClock_91 ?_
              refine x_put (v := .int (((60 * ((10 * ((rdF sg ln 0 2 u.1).1)) + ((rdF sg ln 0 3 ((rdF sg ln 0 2 u.1).2)).1))) + (10 * ((rdF sg ln 0 5 ((rsF sg ln 58 ((rdF sg ln 0 3 ((rdF sg ln 0 2 u.1).2)).2)).2)).1))) + ((rdF sg ln 0 9 ((rdF sg ln 0 5 ((rsF sg ln 58 ((rdF sg ln 0 3 ((rdF sg ln 0 2 u.1).2)).2)).2)).2)).1))) (ty0 := tyX4) (ws2 := XU g xa sa ln ((rdF sg ln 0 9 ((rdF sg ln 0 5 ((rsF sg ln 58 ((rdF sg ln 0 3 ((rdF sg ln 0 2 u.1).2)).2)).2)).2)).2, u.2.1, u.2.2.1, (((60 * ((10 * ((rdF sg ln 0 2 u.1).1)) + ((rdF sg ln 0 3 ((rdF sg ln 0 2 u.1).2)).1))) + (10 * ((rdF sg ln 0 5 ((rsF sg ln 58 ((rdF sg ln 0 3 ((rdF sg ln 0 2 u.1).2)).2)).2)).1))) + ((rdF sg ln 0 9 ((rdF sg ln 0 5 ((rsF sg ln 58 ((rdF sg ln 0 3 ((rdF sg ln 0 2 u.1).2)).2)).2)).2)).1)), u.2.2.2.2) sg) X 0 5 in_X4 tyX4_ok nmX4 hP hD hS rfl rfl (by decide) wF_X4_60 rfl rfl rfl rfl (Nat.le_of_ble_eq_true rfl) rfl dX4_readClock_92 (fun H locs hP hD hS => ?_)
              refine lv_iconst (v := 1) hx hb dX4_readClock_95 (by decide) ?_
              have E : (XU g xa sa ln ((rdF sg ln 0 9 ((rdF sg ln 0 5 ((rsF sg ln 58 ((rdF sg ln 0 3 ((rdF sg ln 0 2 u.1).2)).2)).2)).2)).2, u.2.1, u.2.2.1, (((60 * ((10 * ((rdF sg ln 0 2 u.1).1)) + ((rdF sg ln 0 3 ((rdF sg ln 0 2 u.1).2)).1))) + (10 * ((rdF sg ln 0 5 ((rsF sg ln 58 ((rdF sg ln 0 3 ((rdF sg ln 0 2 u.1).2)).2)).2)).1))) + ((rdF sg ln 0 9 ((rdF sg ln 0 5 ((rsF sg ln 58 ((rdF sg ln 0 3 ((rdF sg ln 0 2 u.1).2)).2)).2)).2)).1)), u.2.2.2.2) sg : va_W) = (XU g xa sa ln ((rcF sg ln u.2.2.2.1 u.1).2.1, u.2.1, u.2.2.1, (rcF sg ln u.2.2.2.1 u.1).2.2, u.2.2.2.2) sg) := by simp only [rcF, rc5, rc4, rc3, rc2, if_pos c_1, if_pos c_2, if_neg c_7, if_neg c_8, if_pos c_9, if_pos c_10]
              exact x_zret X hr hlocks rfl (pw E hP) (dw E hD) hS (by simp only [rcF, rc5, rc4, rc3, rc2, if_pos c_1, if_pos c_2, if_neg c_7, if_neg c_8, if_pos c_9, if_pos c_10]) dX4_readClock_96
            · refine lv_iconst (v := 0) hx hb dX4_readClock_72 (by decide) ?_
              have E : (XU g xa sa ln ((rdF sg ln 0 9 ((rdF sg ln 0 5 ((rsF sg ln 58 ((rdF sg ln 0 3 ((rdF sg ln 0 2 u.1).2)).2)).2)).2)).2, u.2.1, u.2.2.1, u.2.2.2.1, u.2.2.2.2) sg : va_W) = (XU g xa sa ln ((rcF sg ln u.2.2.2.1 u.1).2.1, u.2.1, u.2.2.1, (rcF sg ln u.2.2.2.1 u.1).2.2, u.2.2.2.2) sg) := by simp only [rcF, rc5, rc4, rc3, rc2, if_pos c_1, if_pos c_2, if_neg c_7, if_neg c_8, if_pos c_9, if_neg c_10]
              exact x_zret X hr hlocks rfl (pw E hP) (dw E hD) hS (by simp only [rcF, rc5, rc4, rc3, rc2, if_pos c_1, if_pos c_2, if_neg c_7, if_neg c_8, if_pos c_9, if_neg c_10]) dX4_readClock_73
          · refine lv_iconst (v := 0) hx hb dX4_readClock_56 (by decide) ?_
            have E : (XU g xa sa ln ((rdF sg ln 0 5 ((rsF sg ln 58 ((rdF sg ln 0 3 ((rdF sg ln 0 2 u.1).2)).2)).2)).2, u.2.1, u.2.2.1, u.2.2.2.1, u.2.2.2.2) sg : va_W) = (XU g xa sa ln ((rcF sg ln u.2.2.2.1 u.1).2.1, u.2.1, u.2.2.1, (rcF sg ln u.2.2.2.1 u.1).2.2, u.2.2.2.2) sg) := by simp only [rcF, rc5, rc4, rc3, rc2, if_pos c_1, if_pos c_2, if_neg c_7, if_neg c_8, if_neg c_9]
            exact x_zret X hr hlocks rfl (pw E hP) (dw E hD) hS (by simp only [rcF, rc5, rc4, rc3, rc2, if_pos c_1, if_pos c_2, if_neg c_7, if_neg c_8, if_neg c_9]) dX4_readClock_57
        · refine lv_iconst (v := 0) hx hb dX4_readClock_43 (by decide) ?_
          have E : (XU g xa sa ln ((rsF sg ln 58 ((rdF sg ln 0 3 ((rdF sg ln 0 2 u.1).2)).2)).2, u.2.1, u.2.2.1, u.2.2.2.1, u.2.2.2.2) sg : va_W) = (XU g xa sa ln ((rcF sg ln u.2.2.2.1 u.1).2.1, u.2.1, u.2.2.1, (rcF sg ln u.2.2.2.1 u.1).2.2, u.2.2.2.2) sg) := by simp only [rcF, rc5, rc4, rc3, rc2, if_pos c_1, if_pos c_2, if_neg c_7, if_pos c_8]
          exact x_zret X hr hlocks rfl (pw E hP) (dw E hD) hS (by simp only [rcF, rc5, rc4, rc3, rc2, if_pos c_1, if_pos c_2, if_neg c_7, if_pos c_8]) dX4_readClock_44
  · refine lv_iconst (v := 0) hx hb dX4_readClock_11 (by decide) ?_
    have E : (XU g xa sa ln ((rdF sg ln 0 2 u.1).2, u.2.1, u.2.2.1, u.2.2.2.1, u.2.2.2.2) sg : va_W) = (XU g xa sa ln ((rcF sg ln u.2.2.2.1 u.1).2.1, u.2.1, u.2.2.1, (rcF sg ln u.2.2.2.1 u.1).2.2, u.2.2.2.2) sg) := by simp only [rcF, rc5, rc4, rc3, rc2, if_neg c_1]
    exact x_zret X hr hlocks rfl (pw E hP) (dw E hD) hS (by simp only [rcF, rc5, rc4, rc3, rc2, if_neg c_1]) dX4_readClock_12

def rnL (sg : Nat → Int32) (ln : Nat) (mo : Int32) : Nat → Nat → Int32 → Int32 × Nat
  | 0, q, v => (v, q)
  | n + 1, q, v => if v ≤ 0 then (v, q) else if 0 ≤ (rdF sg ln 0 (jmin 9 (mo - 10 * v)) q).1 then rnL sg ln mo n (rdF sg ln 0 (jmin 9 (mo - 10 * v)) q).2 (10 * v + (rdF sg ln 0 (jmin 9 (mo - 10 * v)) q).1) else (v, (rdF sg ln 0 (jmin 9 (mo - 10 * v)) q).2)
theorem rnL_le (sg : Nat → Int32) (ln : Nat) (mo : Int32) (n : Nat) : ∀ (q : Nat) (v : Int32), q ≤ ln → (rnL sg ln mo n q v).2 ≤ ln := by
  induction n with
  | zero => intro q v h; exact h
  | succ n ih =>
    intro q v h
    have h1 := rdF_le sg ln 0 (jmin 9 (mo - 10 * v)) h
    unfold rnL
    split
    · exact h
    · split
      · exact ih _ _ h1
      · exact h1
def rnF (sg : Nat → Int32) (ln : Nat) (a mo : Int32) (p : Nat) : Int32 × Nat × Int32 := if 0 ≤ (rdF sg ln a 9 p).1 then (1, (rnL sg ln mo 3 (rdF sg ln a 9 p).2 (rdF sg ln a 9 p).1).2, (rnL sg ln mo 3 (rdF sg ln a 9 p).2 (rdF sg ln a 9 p).1).1) else (0, (rdF sg ln a 9 p).2, (rdF sg ln a 9 p).1)
theorem rnF_le (sg : Nat → Int32) (ln : Nat) (a mo : Int32) {p : Nat} (hp : p ≤ ln) : (rnF sg ln a mo p).2.1 ≤ ln := by
  have h1 := rdF_le sg ln a 9 hp
  unfold rnF
  split
  · exact rnL_le _ _ _ _ _ _ h1
  · exact h1
theorem rnF_b (sg : Nat → Int32) (ln : Nat) (a mo : Int32) (p : Nat) : (rnF sg ln a mo p).1 = 0 ∨ (rnF sg ln a mo p).1 = 1 := by
  unfold rnF
  split
  · exact Or.inr rfl
  · exact Or.inl rfl
set_option maxHeartbeats 4000000 in
set_option maxRecDepth 100000 in
theorem c_X4_readNumber (l : Launch) (g : wG) (xa sa ln : Nat) (hln : ln ≤ 60) (u : RQ) (hp : u.1 ≤ ln) (sg : Nat → Int32) (a mo : Int32) : CtI l g 2 yX4_readNumber cX4_readNumber 5 (some .boolean) [.ref xa, .int a, .int mo] (XU g xa sa ln u sg) ((rnF sg ln a mo u.1).1) (XU g xa sa ln ((rnF sg ln a mo u.1).2.1, u.2.1, u.2.2.1, u.2.2.2.1, (rnF sg ln a mo u.1).2.2) sg) := by
  intro sz
  refine x_enter (Qc := fun A => QI g A ((rnF sg ln a mo u.1).1) (XU g xa sa ln ((rnF sg ln a mo u.1).2.1, u.2.1, u.2.2.1, u.2.2.2.1, (rnF sg ln a mo u.1).2.2) sg)) (by decide) (Nat.le_of_ble_eq_true rfl) ?_
  intro p e s m args below meth c X hr hlocks A hA hP hD hS ls hl
  obtain ⟨⟨hx, hb, hml, hown, hts⟩, hK, hN⟩ := id X
  have hl : lv_has ls 5 [(0, .ref xa), (1, .int a), (2, .int mo)] := hl
  refine lv_aload_n hx hb dX4_readNumber_0 rfl (lv_at hl 0 rfl) ?_
  refine lv_aload_n hx hb dX4_readNumber_1 rfl (lv_at hl 0 rfl) ?_
  refine lv_iload_n hx hb dX4_readNumber_2 rfl (lv_at hl 1 rfl) ?_
  refine lv_bipush (v := 9) hx hb dX4_readNumber_3 (by decide) ?_
  refine x_goI (wn := XU g xa sa ln ((rdF sg ln a 9 u.1).2, u.2.1, u.2.2.1, u.2.2.2.1, u.2.2.2.2) sg) (x_rV (As := [.int a, .int 9]) X (c_X4_readDigit l g xa sa ln hln u hp sg a 9 _) yf_X4_readDigit yi_X4_readDigit wM_X4_53 ⟨Nat.le_of_ble_eq_true rfl, Nat.le_of_ble_eq_true rfl⟩ hP hD (p_all _) 0 rfl rfl hl rfl rfl (Nat.le_of_ble_eq_true rfl) dX4_readNumber_5 ⟨Nat.zero_le _, Nat.zero_le _⟩) hP hD hS hA (p_all _) (p_back _) (fun H locs hP hD hS => ?_)
  refine x_put (v := .int ((rdF sg ln a 9 u.1).1)) (ty0 := tyX4) (ws2 := XU g xa sa ln ((rdF sg ln a 9 u.1).2, u.2.1, u.2.2.1, u.2.2.2.1, ((rdF sg ln a 9 u.1).1)) sg) X 0 6 in_X4 tyX4_ok nmX4 hP hD hS rfl rfl (by decide) wF_X4_63 rfl rfl rfl rfl (Nat.le_of_ble_eq_true rfl) rfl dX4_readNumber_8 (fun H locs hP hD hS => ?_)
  refine lv_aload_n hx hb dX4_readNumber_11 rfl (lv_at hl 0 rfl) ?_
  refine x_get (v := .int ((rdF sg ln a 9 u.1).1)) X 0 6 in_X4 hP rfl rfl (by decide) wF_X4_63 rfl rfl dX4_readNumber_12 ?_
  refine lv_if_ge (tgt := 20) hx hb dX4_readNumber_15 (by decide) (fun (c_1 : 0 ≤ ((rdF sg ln a 9 u.1).1)) => ?_) (fun (c_1 : ¬ 0 ≤ ((rdF sg ln a 9 u.1).1)) => ?_)
  · refine lv_iconst (v := 1) hx hb dX4_readNumber_20 (by decide) ?_
    refine lv_istore_n (lv' := [(3, .int 1), (0, .ref xa), (1, .int a), (2, .int mo)]) hx hb dX4_readNumber_21 rfl hl (by decide) rfl (fun ls hl => ?_)
    have L22_3 : ∀ (q : Nat) (v : Int32), (q ≤ ln ∧ rnL sg ln mo 0 q v = rnL sg ln mo 3 (rdF sg ln a 9 u.1).2 (rdF sg ln a 9 u.1).1) → ∀ (ls : Array Slot) (H : Heap) (locs : List Loc), va_P g.1 vwCl (XU g xa sa ln (q, u.2.1, u.2.2.1, u.2.2.2.1, v) sg) H → va_D A (XU g xa sa ln (q, u.2.1, u.2.2.1, u.2.2.2.1, v) sg) → va_S A s.heap H locs → lv_has ls 5 [(3, .int 4), (0, .ref xa), (1, .int a), (2, .int mo)] → W p l e (rmD 2) s m args below meth c H locs 0 0 (MQ below (QI g A ((rnF sg ln a mo u.1).1) (XU g xa sa ln ((rnF sg ln a mo u.1).2.1, u.2.1, u.2.2.1, u.2.2.2.1, (rnF sg ln a mo u.1).2.2) sg)) args s 0 0 A) (F0 m 22 ls []) := by
      intro q v ht ls H locs hP hD hS hl
      refine lv_iload_n hx hb dX4_readNumber_22 rfl (lv_at hl 0 rfl) ?_
      refine lv_iconst (v := 4) hx hb dX4_readNumber_23 (by decide) ?_
      refine lv_icmp_ge (tgt := 82) hx hb dX4_readNumber_24 (by decide) (fun c_2 => ?_) (fun q9 => absurd (show (4 : Int32) ≤ (4 : Int32) from (by decide)) (show ¬ ((4 : Int32) ≤ (4 : Int32)) from q9))
      refine lv_iconst (v := 1) hx hb dX4_readNumber_82 (by decide) ?_
      have E2 : rnL sg ln mo 3 (rdF sg ln a 9 u.1).2 (rdF sg ln a 9 u.1).1 = (v, q) := by rw [← ht.2]; simp only [rnL]
      have E : (XU g xa sa ln (q, u.2.1, u.2.2.1, u.2.2.2.1, v) sg : va_W) = XU g xa sa ln ((rnF sg ln a mo u.1).2.1, u.2.1, u.2.2.1, u.2.2.2.1, (rnF sg ln a mo u.1).2.2) sg := by simp only [rnF, if_pos c_1]; rw [E2]
      exact x_zret X hr hlocks rfl (pw E hP) (dw E hD) hS (by simp only [rnF, if_pos c_1]) dX4_readNumber_83
    have L22_2 : ∀ (q : Nat) (v : Int32), (q ≤ ln ∧ rnL sg ln mo 1 q v = rnL sg ln mo 3 (rdF sg ln a 9 u.1).2 (rdF sg ln a 9 u.1).1) → ∀ (ls : Array Slot) (H : Heap) (locs : List Loc), va_P g.1 vwCl (XU g xa sa ln (q, u.2.1, u.2.2.1, u.2.2.2.1, v) sg) H → va_D A (XU g xa sa ln (q, u.2.1, u.2.2.1, u.2.2.2.1, v) sg) → va_S A s.heap H locs → lv_has ls 5 [(3, .int 3), (0, .ref xa), (1, .int a), (2, .int mo)] → W p l e (rmD 2) s m args below meth c H locs 0 0 (MQ below (QI g A ((rnF sg ln a mo u.1).1) (XU g xa sa ln ((rnF sg ln a mo u.1).2.1, u.2.1, u.2.2.1, u.2.2.2.1, (rnF sg ln a mo u.1).2.2) sg)) args s 0 0 A) (F0 m 22 ls []) := by
      intro q v ht ls H locs hP hD hS hl
      refine lv_iload_n hx hb dX4_readNumber_22 rfl (lv_at hl 0 rfl) ?_
      refine lv_iconst (v := 4) hx hb dX4_readNumber_23 (by decide) ?_
      refine lv_icmp_ge (tgt := 82) hx hb dX4_readNumber_24 (by decide) (fun q9 => absurd q9 (show ¬ (4 : Int32) ≤ (3 : Int32) from (by decide))) (fun c_3 => ?_)
      refine lv_aload_n hx hb dX4_readNumber_27 rfl (lv_at hl 1 rfl) ?_
      refine x_get (v := .int v) X 0 6 in_X4 hP rfl rfl (by decide) wF_X4_63 rfl rfl dX4_readNumber_28 ?_
      refine lv_if_le (tgt := 82) hx hb dX4_readNumber_31 (by decide) (fun (c_4 : v ≤ 0) => ?_) (fun (c_4 : ¬ v ≤ 0) => ?_)
      · refine lv_iconst (v := 1) hx hb dX4_readNumber_82 (by decide) ?_
        have E2 : rnL sg ln mo 3 (rdF sg ln a 9 u.1).2 (rdF sg ln a 9 u.1).1 = (v, q) := by rw [← ht.2]; simp only [rnL, if_pos c_4]
        have E : (XU g xa sa ln (q, u.2.1, u.2.2.1, u.2.2.2.1, v) sg : va_W) = XU g xa sa ln ((rnF sg ln a mo u.1).2.1, u.2.1, u.2.2.1, u.2.2.2.1, (rnF sg ln a mo u.1).2.2) sg := by simp only [rnF, if_pos c_1]; rw [E2]
        exact x_zret X hr hlocks rfl (pw E hP) (dw E hD) hS (by simp only [rnF, if_pos c_1]) dX4_readNumber_83
      · refine lv_aload_n hx hb dX4_readNumber_34 rfl (lv_at hl 1 rfl) ?_
        refine lv_iconst (v := 0) hx hb dX4_readNumber_35 (by decide) ?_
        refine lv_bipush (v := 9) hx hb dX4_readNumber_36 (by decide) ?_
        refine lv_iload_n hx hb dX4_readNumber_38 rfl (lv_at hl 3 rfl) ?_
        refine lv_bipush (v := 10) hx hb dX4_readNumber_39 (by decide) ?_
        refine lv_aload_n hx hb dX4_readNumber_41 rfl (lv_at hl 1 rfl) ?_
        refine x_get (v := .int v) X 0 6 in_X4 hP rfl rfl (by decide) wF_X4_63 rfl rfl dX4_readNumber_42 ?_
        refine lv_imul hx hb dX4_readNumber_45 ?_
        refine lv_isub hx hb dX4_readNumber_46 ?_
        refine x_min X hl wM_X4_66 mk_min wI_RJ9 ⟨Nat.le_of_ble_eq_true rfl, Nat.le_of_ble_eq_true rfl⟩ ⟨Nat.zero_le _, Nat.zero_le _⟩ dX4_readNumber_47 ?_
        refine x_goI (wn := XU g xa sa ln ((rdF sg ln 0 (jmin 9 (mo - (10 * v))) q).2, u.2.1, u.2.2.1, u.2.2.2.1, v) sg) (x_rV (As := [.int 0, .int (jmin 9 (mo - (10 * v)))]) X (c_X4_readDigit l g xa sa ln hln (q, u.2.1, u.2.2.1, u.2.2.2.1, v) ht.1 sg 0 (jmin 9 (mo - (10 * v))) _) yf_X4_readDigit yi_X4_readDigit wM_X4_53 ⟨Nat.le_of_ble_eq_true rfl, Nat.le_of_ble_eq_true rfl⟩ hP hD (p_all _) 0 rfl rfl hl rfl rfl (Nat.le_of_ble_eq_true rfl) dX4_readNumber_50 ⟨Nat.zero_le _, Nat.zero_le _⟩) hP hD hS hA (p_all _) (p_back _) (fun H locs hP hD hS => ?_)
        refine lv_istore (lv' := [(4, .int ((rdF sg ln 0 (jmin 9 (mo - (10 * v))) q).1)), (3, .int 3), (0, .ref xa), (1, .int a), (2, .int mo)]) hx hb dX4_readNumber_53 hl (by decide) rfl (fun ls hl => ?_)
        refine lv_iload hx hb dX4_readNumber_55 (lv_at hl 0 rfl) ?_
        refine lv_if_ge (tgt := 62) hx hb dX4_readNumber_57 (by decide) (fun (c_5 : 0 ≤ ((rdF sg ln 0 (jmin 9 (mo - (10 * v))) q).1)) => ?_) (fun (c_5 : ¬ 0 ≤ ((rdF sg ln 0 (jmin 9 (mo - (10 * v))) q).1)) => ?_)
        · refine lv_aload_n hx hb dX4_readNumber_62 rfl (lv_at hl 2 rfl) ?_
          refine lv_bipush (v := 10) hx hb dX4_readNumber_63 (by decide) ?_
          refine lv_aload_n hx hb dX4_readNumber_65 rfl (lv_at hl 2 rfl) ?_
          refine x_get (v := .int v) X 0 6 in_X4 hP rfl rfl (by decide) wF_X4_63 rfl rfl dX4_readNumber_66 ?_
          refine lv_imul hx hb dX4_readNumber_69 ?_
          refine lv_iload hx hb dX4_readNumber_70 (lv_at hl 0 rfl) ?_
          refine lv_iadd hx hb dX4_readNumber_72 ?_
          refine x_put (v := .int ((10 * v) + ((rdF sg ln 0 (jmin 9 (mo - (10 * v))) q).1))) (ty0 := tyX4) (ws2 := XU g xa sa ln ((rdF sg ln 0 (jmin 9 (mo - (10 * v))) q).2, u.2.1, u.2.2.1, u.2.2.2.1, ((10 * v) + ((rdF sg ln 0 (jmin 9 (mo - (10 * v))) q).1))) sg) X 0 6 in_X4 tyX4_ok nmX4 hP hD hS rfl rfl (by decide) wF_X4_63 rfl rfl rfl rfl (Nat.le_of_ble_eq_true rfl) rfl dX4_readNumber_73 (fun H locs hP hD hS => ?_)
          refine lv_iinc (v := 4) (lv' := [(3, .int 4), (4, .int ((rdF sg ln 0 (jmin 9 (mo - (10 * v))) q).1)), (0, .ref xa), (1, .int a), (2, .int mo)]) hx hb dX4_readNumber_76 hl (k := 1) rfl rfl (by decide) rfl (fun ls hl => ?_)
          refine lv_goto (tgt := 22) hx hb dX4_readNumber_79 (by decide) ?_
          exact L22_3 ((rdF sg ln 0 (jmin 9 (mo - (10 * v))) q).2) ((10 * v) + ((rdF sg ln 0 (jmin 9 (mo - (10 * v))) q).1)) ⟨(rdF_le sg ln 0 (jmin 9 (mo - (10 * v))) ht.1), (by rw [← ht.2]; simp only [rnL, if_neg c_4, if_pos c_5])⟩ ls _ _ hP hD hS (lv_sub hl [0, 2, 3, 4] rfl)
        · refine lv_iconst (v := 1) hx hb dX4_readNumber_60 (by decide) ?_
          have E2 : rnL sg ln mo 3 (rdF sg ln a 9 u.1).2 (rdF sg ln a 9 u.1).1 = (v, (rdF sg ln 0 (jmin 9 (mo - (10 * v))) q).2) := by rw [← ht.2]; simp only [rnL, if_neg c_4, if_neg c_5]
          have E : (XU g xa sa ln ((rdF sg ln 0 (jmin 9 (mo - (10 * v))) q).2, u.2.1, u.2.2.1, u.2.2.2.1, v) sg : va_W) = XU g xa sa ln ((rnF sg ln a mo u.1).2.1, u.2.1, u.2.2.1, u.2.2.2.1, (rnF sg ln a mo u.1).2.2) sg := by simp only [rnF, if_pos c_1]; rw [E2]
          exact x_zret X hr hlocks rfl (pw E hP) (dw E hD) hS (by simp only [rnF, if_pos c_1]) dX4_readNumber_61
    have L22_1 : ∀ (q : Nat) (v : Int32), (q ≤ ln ∧ rnL sg ln mo 2 q v = rnL sg ln mo 3 (rdF sg ln a 9 u.1).2 (rdF sg ln a 9 u.1).1) → ∀ (ls : Array Slot) (H : Heap) (locs : List Loc), va_P g.1 vwCl (XU g xa sa ln (q, u.2.1, u.2.2.1, u.2.2.2.1, v) sg) H → va_D A (XU g xa sa ln (q, u.2.1, u.2.2.1, u.2.2.2.1, v) sg) → va_S A s.heap H locs → lv_has ls 5 [(3, .int 2), (0, .ref xa), (1, .int a), (2, .int mo)] → W p l e (rmD 2) s m args below meth c H locs 0 0 (MQ below (QI g A ((rnF sg ln a mo u.1).1) (XU g xa sa ln ((rnF sg ln a mo u.1).2.1, u.2.1, u.2.2.1, u.2.2.2.1, (rnF sg ln a mo u.1).2.2) sg)) args s 0 0 A) (F0 m 22 ls []) := by
      intro q v ht ls H locs hP hD hS hl
      refine lv_iload_n hx hb dX4_readNumber_22 rfl (lv_at hl 0 rfl) ?_
      refine lv_iconst (v := 4) hx hb dX4_readNumber_23 (by decide) ?_
      refine lv_icmp_ge (tgt := 82) hx hb dX4_readNumber_24 (by decide) (fun q9 => absurd q9 (show ¬ (4 : Int32) ≤ (2 : Int32) from (by decide))) (fun c_6 => ?_)
      refine lv_aload_n hx hb dX4_readNumber_27 rfl (lv_at hl 1 rfl) ?_
      refine x_get (v := .int v) X 0 6 in_X4 hP rfl rfl (by decide) wF_X4_63 rfl rfl dX4_readNumber_28 ?_
      refine lv_if_le (tgt := 82) hx hb dX4_readNumber_31 (by decide) (fun (c_7 : v ≤ 0) => ?_) (fun (c_7 : ¬ v ≤ 0) => ?_)
      · refine lv_iconst (v := 1) hx hb dX4_readNumber_82 (by decide) ?_
        have E2 : rnL sg ln mo 3 (rdF sg ln a 9 u.1).2 (rdF sg ln a 9 u.1).1 = (v, q) := by rw [← ht.2]; simp only [rnL, if_pos c_7]
        have E : (XU g xa sa ln (q, u.2.1, u.2.2.1, u.2.2.2.1, v) sg : va_W) = XU g xa sa ln ((rnF sg ln a mo u.1).2.1, u.2.1, u.2.2.1, u.2.2.2.1, (rnF sg ln a mo u.1).2.2) sg := by simp only [rnF, if_pos c_1]; rw [E2]
        exact x_zret X hr hlocks rfl (pw E hP) (dw E hD) hS (by simp only [rnF, if_pos c_1]) dX4_readNumber_83
      · refine lv_aload_n hx hb dX4_readNumber_34 rfl (lv_at hl 1 rfl) ?_
        refine lv_iconst (v := 0) hx hb dX4_readNumber_35 (by decide) ?_
        refine lv_bipush (v := 9) hx hb dX4_readNumber_36 (by decide) ?_
        refine lv_iload_n hx hb dX4_readNumber_38 rfl (lv_at hl 3 rfl) ?_
        refine lv_bipush (v := 10) hx hb dX4_readNumber_39 (by decide) ?_
        refine lv_aload_n hx hb dX4_readNumber_41 rfl (lv_at hl 1 rfl) ?_
        refine x_get (v := .int v) X 0 6 in_X4 hP rfl rfl (by decide) wF_X4_63 rfl rfl dX4_readNumber_42 ?_
        refine lv_imul hx hb dX4_readNumber_45 ?_
        refine lv_isub hx hb dX4_readNumber_46 ?_
        refine x_min X hl wM_X4_66 mk_min wI_RJ9 ⟨Nat.le_of_ble_eq_true rfl, Nat.le_of_ble_eq_true rfl⟩ ⟨Nat.zero_le _, Nat.zero_le _⟩ dX4_readNumber_47 ?_
        refine x_goI (wn := XU g xa sa ln ((rdF sg ln 0 (jmin 9 (mo - (10 * v))) q).2, u.2.1, u.2.2.1, u.2.2.2.1, v) sg) (x_rV (As := [.int 0, .int (jmin 9 (mo - (10 * v)))]) X (c_X4_readDigit l g xa sa ln hln (q, u.2.1, u.2.2.1, u.2.2.2.1, v) ht.1 sg 0 (jmin 9 (mo - (10 * v))) _) yf_X4_readDigit yi_X4_readDigit wM_X4_53 ⟨Nat.le_of_ble_eq_true rfl, Nat.le_of_ble_eq_true rfl⟩ hP hD (p_all _) 0 rfl rfl hl rfl rfl (Nat.le_of_ble_eq_true rfl) dX4_readNumber_50 ⟨Nat.zero_le _, Nat.zero_le _⟩) hP hD hS hA (p_all _) (p_back _) (fun H locs hP hD hS => ?_)
        refine lv_istore (lv' := [(4, .int ((rdF sg ln 0 (jmin 9 (mo - (10 * v))) q).1)), (3, .int 2), (0, .ref xa), (1, .int a), (2, .int mo)]) hx hb dX4_readNumber_53 hl (by decide) rfl (fun ls hl => ?_)
        refine lv_iload hx hb dX4_readNumber_55 (lv_at hl 0 rfl) ?_
        refine lv_if_ge (tgt := 62) hx hb dX4_readNumber_57 (by decide) (fun (c_8 : 0 ≤ ((rdF sg ln 0 (jmin 9 (mo - (10 * v))) q).1)) => ?_) (fun (c_8 : ¬ 0 ≤ ((rdF sg ln 0 (jmin 9 (mo - (10 * v))) q).1)) => ?_)
        · refine lv_aload_n hx hb dX4_readNumber_62 rfl (lv_at hl 2 rfl) ?_
          refine lv_bipush (v := 10) hx hb dX4_readNumber_63 (by decide) ?_
          refine lv_aload_n hx hb dX4_readNumber_65 rfl (lv_at hl 2 rfl) ?_
          refine x_get (v := .int v) X 0 6 in_X4 hP rfl rfl (by decide) wF_X4_63 rfl rfl dX4_readNumber_66 ?_
          refine lv_imul hx hb dX4_readNumber_69 ?_
          refine lv_iload hx hb dX4_readNumber_70 (lv_at hl 0 rfl) ?_
          refine lv_iadd hx hb dX4_readNumber_72 ?_
          refine x_put (v := .int ((10 * v) + ((rdF sg ln 0 (jmin 9 (mo - (10 * v))) q).1))) (ty0 := tyX4) (ws2 := XU g xa sa ln ((rdF sg ln 0 (jmin 9 (mo - (10 * v))) q).2, u.2.1, u.2.2.1, u.2.2.2.1, ((10 * v) + ((rdF sg ln 0 (jmin 9 (mo - (10 * v))) q).1))) sg) X 0 6 in_X4 tyX4_ok nmX4 hP hD hS rfl rfl (by decide) wF_X4_63 rfl rfl rfl rfl (Nat.le_of_ble_eq_true rfl) rfl dX4_readNumber_73 (fun H locs hP hD hS => ?_)
          refine lv_iinc (v := 3) (lv' := [(3, .int 3), (4, .int ((rdF sg ln 0 (jmin 9 (mo - (10 * v))) q).1)), (0, .ref xa), (1, .int a), (2, .int mo)]) hx hb dX4_readNumber_76 hl (k := 1) rfl rfl (by decide) rfl (fun ls hl => ?_)
          refine lv_goto (tgt := 22) hx hb dX4_readNumber_79 (by decide) ?_
          exact L22_2 ((rdF sg ln 0 (jmin 9 (mo - (10 * v))) q).2) ((10 * v) + ((rdF sg ln 0 (jmin 9 (mo - (10 * v))) q).1)) ⟨(rdF_le sg ln 0 (jmin 9 (mo - (10 * v))) ht.1), (by rw [← ht.2]; simp only [rnL, if_neg c_7, if_pos c_8])⟩ ls _ _ hP hD hS (lv_sub hl [0, 2, 3, 4] rfl)
        · refine lv_iconst (v := 1) hx hb dX4_readNumber_60 (by decide) ?_
          have E2 : rnL sg ln mo 3 (rdF sg ln a 9 u.1).2 (rdF sg ln a 9 u.1).1 = (v, (rdF sg ln 0 (jmin 9 (mo - (10 * v))) q).2) := by rw [← ht.2]; simp only [rnL, if_neg c_7, if_neg c_8]
          have E : (XU g xa sa ln ((rdF sg ln 0 (jmin 9 (mo - (10 * v))) q).2, u.2.1, u.2.2.1, u.2.2.2.1, v) sg : va_W) = XU g xa sa ln ((rnF sg ln a mo u.1).2.1, u.2.1, u.2.2.1, u.2.2.2.1, (rnF sg ln a mo u.1).2.2) sg := by simp only [rnF, if_pos c_1]; rw [E2]
          exact x_zret X hr hlocks rfl (pw E hP) (dw E hD) hS (by simp only [rnF, if_pos c_1]) dX4_readNumber_61
    have L22_0 : ∀ (q : Nat) (v : Int32), (q ≤ ln ∧ rnL sg ln mo 3 q v = rnL sg ln mo 3 (rdF sg ln a 9 u.1).2 (rdF sg ln a 9 u.1).1) → ∀ (ls : Array Slot) (H : Heap) (locs : List Loc), va_P g.1 vwCl (XU g xa sa ln (q, u.2.1, u.2.2.1, u.2.2.2.1, v) sg) H → va_D A (XU g xa sa ln (q, u.2.1, u.2.2.1, u.2.2.2.1, v) sg) → va_S A s.heap H locs → lv_has ls 5 [(3, .int 1), (0, .ref xa), (1, .int a), (2, .int mo)] → W p l e (rmD 2) s m args below meth c H locs 0 0 (MQ below (QI g A ((rnF sg ln a mo u.1).1) (XU g xa sa ln ((rnF sg ln a mo u.1).2.1, u.2.1, u.2.2.1, u.2.2.2.1, (rnF sg ln a mo u.1).2.2) sg)) args s 0 0 A) (F0 m 22 ls []) := by
      intro q v ht ls H locs hP hD hS hl
      refine lv_iload_n hx hb dX4_readNumber_22 rfl (lv_at hl 0 rfl) ?_
      refine lv_iconst (v := 4) hx hb dX4_readNumber_23 (by decide) ?_
      refine lv_icmp_ge (tgt := 82) hx hb dX4_readNumber_24 (by decide) (fun q9 => absurd q9 (show ¬ (4 : Int32) ≤ (1 : Int32) from (by decide))) (fun c_9 => ?_)
      refine lv_aload_n hx hb dX4_readNumber_27 rfl (lv_at hl 1 rfl) ?_
      refine x_get (v := .int v) X 0 6 in_X4 hP rfl rfl (by decide) wF_X4_63 rfl rfl dX4_readNumber_28 ?_
      refine lv_if_le (tgt := 82) hx hb dX4_readNumber_31 (by decide) (fun (c_10 : v ≤ 0) => ?_) (fun (c_10 : ¬ v ≤ 0) => ?_)
      · refine lv_iconst (v := 1) hx hb dX4_readNumber_82 (by decide) ?_
        have E2 : rnL sg ln mo 3 (rdF sg ln a 9 u.1).2 (rdF sg ln a 9 u.1).1 = (v, q) := by rw [← ht.2]; simp only [rnL, if_pos c_10]
        have E : (XU g xa sa ln (q, u.2.1, u.2.2.1, u.2.2.2.1, v) sg : va_W) = XU g xa sa ln ((rnF sg ln a mo u.1).2.1, u.2.1, u.2.2.1, u.2.2.2.1, (rnF sg ln a mo u.1).2.2) sg := by simp only [rnF, if_pos c_1]; rw [E2]
        exact x_zret X hr hlocks rfl (pw E hP) (dw E hD) hS (by simp only [rnF, if_pos c_1]) dX4_readNumber_83
      · refine lv_aload_n hx hb dX4_readNumber_34 rfl (lv_at hl 1 rfl) ?_
        refine lv_iconst (v := 0) hx hb dX4_readNumber_35 (by decide) ?_
        refine lv_bipush (v := 9) hx hb dX4_readNumber_36 (by decide) ?_
        refine lv_iload_n hx hb dX4_readNumber_38 rfl (lv_at hl 3 rfl) ?_
        refine lv_bipush (v := 10) hx hb dX4_readNumber_39 (by decide) ?_
        refine lv_aload_n hx hb dX4_readNumber_41 rfl (lv_at hl 1 rfl) ?_
        refine x_get (v := .int v) X 0 6 in_X4 hP rfl rfl (by decide) wF_X4_63 rfl rfl dX4_readNumber_42 ?_
        refine lv_imul hx hb dX4_readNumber_45 ?_
        refine lv_isub hx hb dX4_readNumber_46 ?_
        refine x_min X hl wM_X4_66 mk_min wI_RJ9 ⟨Nat.le_of_ble_eq_true rfl, Nat.le_of_ble_eq_true rfl⟩ ⟨Nat.zero_le _, Nat.zero_le _⟩ dX4_readNumber_47 ?_
        refine x_goI (wn := XU g xa sa ln ((rdF sg ln 0 (jmin 9 (mo - (10 * v))) q).2, u.2.1, u.2.2.1, u.2.2.2.1, v) sg) (x_rV (As := [.int 0, .int (jmin 9 (mo - (10 * v)))]) X (c_X4_readDigit l g xa sa ln hln (q, u.2.1, u.2.2.1, u.2.2.2.1, v) ht.1 sg 0 (jmin 9 (mo - (10 * v))) _) yf_X4_readDigit yi_X4_readDigit wM_X4_53 ⟨Nat.le_of_ble_eq_true rfl, Nat.le_of_ble_eq_true rfl⟩ hP hD (p_all _) 0 rfl rfl hl rfl rfl (Nat.le_of_ble_eq_true rfl) dX4_readNumber_50 ⟨Nat.zero_le _, Nat.zero_le _⟩) hP hD hS hA (p_all _) (p_back _) (fun H locs hP hD hS => ?_)
        refine lv_istore (lv' := [(4, .int ((rdF sg ln 0 (jmin 9 (mo - (10 * v))) q).1)), (3, .int 1), (0, .ref xa), (1, .int a), (2, .int mo)]) hx hb dX4_readNumber_53 hl (by decide) rfl (fun ls hl => ?_)
        refine lv_iload hx hb dX4_readNumber_55 (lv_at hl 0 rfl) ?_
        refine lv_if_ge (tgt := 62) hx hb dX4_readNumber_57 (by decide) (fun (c_11 : 0 ≤ ((rdF sg ln 0 (jmin 9 (mo - (10 * v))) q).1)) => ?_) (fun (c_11 : ¬ 0 ≤ ((rdF sg ln 0 (jmin 9 (mo - (10 * v))) q).1)) => ?_)
        · refine lv_aload_n hx hb dX4_readNumber_62 rfl (lv_at hl 2 rfl) ?_
          refine lv_bipush (v := 10) hx hb dX4_readNumber_63 (by decide) ?_
          refine lv_aload_n hx hb dX4_readNumber_65 rfl (lv_at hl 2 rfl) ?_
          refine x_get (v := .int v) X 0 6 in_X4 hP rfl rfl (by decide) wF_X4_63 rfl rfl dX4_readNumber_66 ?_
          refine lv_imul hx hb dX4_readNumber_69 ?_
          refine lv_iload hx hb dX4_readNumber_70 (lv_at hl 0 rfl) ?_
          refine lv_iadd hx hb dX4_readNumber_72 ?_
          refine x_put (v := .int ((10 * v) + ((rdF sg ln 0 (jmin 9 (mo - (10 * v))) q).1))) (ty0 := tyX4) (ws2 := XU g xa sa ln ((rdF sg ln 0 (jmin 9 (mo - (10 * v))) q).2, u.2.1, u.2.2.1, u.2.2.2.1, ((10 * v) + ((rdF sg ln 0 (jmin 9 (mo - (10 * v))) q).1))) sg) X 0 6 in_X4 tyX4_ok nmX4 hP hD hS rfl rfl (by decide) wF_X4_63 rfl rfl rfl rfl (Nat.le_of_ble_eq_true rfl) rfl dX4_readNumber_73 (fun H locs hP hD hS => ?_)
          refine lv_iinc (v := 2) (lv' := [(3, .int 2), (4, .int ((rdF sg ln 0 (jmin 9 (mo - (10 * v))) q).1)), (0, .ref xa), (1, .int a), (2, .int mo)]) hx hb dX4_readNumber_76 hl (k := 1) rfl rfl (by decide) rfl (fun ls hl => ?_)
          refine lv_goto (tgt := 22) hx hb dX4_readNumber_79 (by decide) ?_
          exact L22_1 ((rdF sg ln 0 (jmin 9 (mo - (10 * v))) q).2) ((10 * v) + ((rdF sg ln 0 (jmin 9 (mo - (10 * v))) q).1)) ⟨(rdF_le sg ln 0 (jmin 9 (mo - (10 * v))) ht.1), (by rw [← ht.2]; simp only [rnL, if_neg c_10, if_pos c_11])⟩ ls _ _ hP hD hS (lv_sub hl [0, 2, 3, 4] rfl)
        · refine lv_iconst (v := 1) hx hb dX4_readNumber_60 (by decide) ?_
          have E2 : rnL sg ln mo 3 (rdF sg ln a 9 u.1).2 (rdF sg ln a 9 u.1).1 = (v, (rdF sg ln 0 (jmin 9 (mo - (10 * v))) q).2) := by rw [← ht.2]; simp only [rnL, if_neg c_10, if_neg c_11]
          have E : (XU g xa sa ln ((rdF sg ln 0 (jmin 9 (mo - (10 * v))) q).2, u.2.1, u.2.2.1, u.2.2.2.1, v) sg : va_W) = XU g xa sa ln ((rnF sg ln a mo u.1).2.1, u.2.1, u.2.2.1, u.2.2.2.1, (rnF sg ln a mo u.1).2.2) sg := by simp only [rnF, if_pos c_1]; rw [E2]
          exact x_zret X hr hlocks rfl (pw E hP) (dw E hD) hS (by simp only [rnF, if_pos c_1]) dX4_readNumber_61
    exact L22_0 ((rdF sg ln a 9 u.1).2) ((rdF sg ln a 9 u.1).1) ⟨rdF_le _ _ _ _ hp, rfl⟩ ls _ _ hP hD hS (lv_sub hl [0, 1, 2, 3] rfl)
  · refine lv_iconst (v := 0) hx hb dX4_readNumber_18 (by decide) ?_
    have E : (XU g xa sa ln ((rdF sg ln a 9 u.1).2, u.2.1, u.2.2.1, u.2.2.2.1, ((rdF sg ln a 9 u.1).1)) sg : va_W) = XU g xa sa ln ((rnF sg ln a mo u.1).2.1, u.2.1, u.2.2.1, u.2.2.2.1, (rnF sg ln a mo u.1).2.2) sg := by simp only [rnF, if_neg c_1]
    exact x_zret X hr hlocks rfl (pw E hP) (dw E hD) hS (by simp only [rnF, if_neg c_1]) dX4_readNumber_19

def rwq (sg : Nat → Int32) (ln p : Nat) : Nat := if (rsF sg ln 45 p).1 = 0 then (rsF sg ln 43 (rsF sg ln 45 p).2).2 else (rsF sg ln 45 p).2
def rwN (sg : Nat → Int32) (ln q : Nat) (sl : Int32) : Int32 × Nat × Int32 := if (rnF sg ln 0 30 q).1 = 0 then (0, (rnF sg ln 0 30 q).2.1, (rnF sg ln 0 30 q).2.2) else if sl = 0 then (1, (rnF sg ln 0 30 q).2.1, (rnF sg ln 0 30 q).2.2) else (1, (rnF sg ln 0 30 q).2.1, -(rnF sg ln 0 30 q).2.2)
def rgF (sg : Nat → Int32) (ln : Nat) (nu : Int32) (p : Nat) : Int32 × Nat × Int32 :=
  if (rsF sg ln 45 p).1 = 0 then (if (rsF sg ln 43 (rsF sg ln 45 p).2).1 = 0 then (0, (rsF sg ln 43 (rsF sg ln 45 p).2).2, nu) else rwN sg ln (rsF sg ln 43 (rsF sg ln 45 p).2).2 (rsF sg ln 45 p).1) else rwN sg ln (rsF sg ln 45 p).2 (rsF sg ln 45 p).1
theorem rgF_le (sg : Nat → Int32) (ln : Nat) (nu : Int32) {p : Nat} (hp : p ≤ ln) : (rgF sg ln nu p).2.1 ≤ ln := by
  have h1 := rsF_le sg ln 45 hp
  have h2 := rsF_le sg ln 43 h1
  have h3 : ∀ q sl, q ≤ ln → (rwN sg ln q sl).2.1 ≤ ln := by
    intro q sl h
    have := rnF_le sg ln 0 30 h
    unfold rwN
    split
    · exact this
    · split <;> exact this
  unfold rgF
  split
  · split
    · exact h2
    · exact h3 _ _ h2
  · exact h3 _ _ h1
theorem rgF_b (sg : Nat → Int32) (ln : Nat) (nu : Int32) (p : Nat) : (rgF sg ln nu p).1 = 0 ∨ (rgF sg ln nu p).1 = 1 := by
  have h3 : ∀ q sl, (rwN sg ln q sl).1 = 0 ∨ (rwN sg ln q sl).1 = 1 := by
    intro q sl
    unfold rwN
    split
    · exact Or.inl rfl
    · split <;> exact Or.inr rfl
  unfold rgF
  split
  · split
    · exact Or.inl rfl
    · exact h3 _ _
  · exact h3 _ _
set_option maxHeartbeats 4000000 in
set_option maxRecDepth 100000 in
theorem c_X4_readWrong (l : Launch) (g : wG) (xa sa ln : Nat) (hln : ln ≤ 60) (u : RQ) (hp : u.1 ≤ ln) (sg : Nat → Int32) : CtI l g 3 yX4_readWrong cX4_readWrong 2 (some .boolean) [.ref xa] (XU g xa sa ln u sg) ((rgF sg ln u.2.2.2.2 u.1).1) (XU g xa sa ln ((rgF sg ln u.2.2.2.2 u.1).2.1, u.2.1, u.2.2.1, u.2.2.2.1, (rgF sg ln u.2.2.2.2 u.1).2.2) sg) := by
  intro sz
  refine x_enter (Qc := fun A => QI g A ((rgF sg ln u.2.2.2.2 u.1).1) (XU g xa sa ln ((rgF sg ln u.2.2.2.2 u.1).2.1, u.2.1, u.2.2.1, u.2.2.2.1, (rgF sg ln u.2.2.2.2 u.1).2.2) sg)) (by decide) (Nat.le_of_ble_eq_true rfl) ?_
  intro p e s m args below meth c X hr hlocks A hA hP hD hS ls hl
  obtain ⟨⟨hx, hb, hml, hown, hts⟩, hK, hN⟩ := id X
  have hl : lv_has ls 2 [(0, .ref xa)] := hl
  refine lv_aload_n hx hb dX4_readWrong_0 rfl (lv_at hl 0 rfl) ?_
  refine lv_bipush (v := 45) hx hb dX4_readWrong_1 (by decide) ?_
  refine x_goI (wn := XU g xa sa ln ((rsF sg ln 45 u.1).2, u.2.1, u.2.2.1, u.2.2.2.1, u.2.2.2.2) sg) (x_rV (As := [.int 45]) X (c_X4_readSign l g xa sa ln hln u hp sg 45 _) yf_X4_readSign yi_X4_readSign wM_X4_29 ⟨Nat.le_of_ble_eq_true rfl, Nat.le_of_ble_eq_true rfl⟩ hP hD (p_all _) 0 rfl rfl hl rfl rfl (Nat.le_of_ble_eq_true rfl) dX4_readWrong_3 ⟨Nat.zero_le _, Nat.zero_le _⟩) hP hD hS hA (p_all _) (p_back _) (fun H locs hP hD hS => ?_)
  refine lv_istore_n (lv' := [(1, .int ((rsF sg ln 45 u.1).1)), (0, .ref xa)]) hx hb dX4_readWrong_6 rfl hl (by decide) rfl (fun ls hl => ?_)
  refine lv_iload_n hx hb dX4_readWrong_7 rfl (lv_at hl 0 rfl) ?_
  refine lv_if_ne (tgt := 22) hx hb dX4_readWrong_8 (by decide) (fun (c_1 : ¬ ((rsF sg ln 45 u.1).1) = 0) => ?_) (fun (c_1 : ((rsF sg ln 45 u.1).1) = 0) => ?_)
  · refine lv_aload_n hx hb dX4_readWrong_22 rfl (lv_at hl 1 rfl) ?_
    refine lv_iconst (v := 0) hx hb dX4_readWrong_23 (by decide) ?_
    refine lv_bipush (v := 30) hx hb dX4_readWrong_24 (by decide) ?_
    refine x_goI (wn := XU g xa sa ln ((rnF sg ln 0 30 ((rsF sg ln 45 u.1).2)).2.1, u.2.1, u.2.2.1, u.2.2.2.1, (rnF sg ln 0 30 ((rsF sg ln 45 u.1).2)).2.2) sg) (x_rV (As := [.int 0, .int 30]) X (c_X4_readNumber l g xa sa ln hln ((rsF sg ln 45 u.1).2, u.2.1, u.2.2.1, u.2.2.2.1, u.2.2.2.2) (rsF_le sg ln 45 hp) sg 0 30 _) yf_X4_readNumber yi_X4_readNumber wM_X4_45 ⟨Nat.le_of_ble_eq_true rfl, Nat.le_of_ble_eq_true rfl⟩ hP hD (p_all _) 0 rfl rfl hl rfl rfl (Nat.le_of_ble_eq_true rfl) dX4_readWrong_26 ⟨Nat.zero_le _, Nat.zero_le _⟩) hP hD hS hA (p_all _) (p_back _) (fun H locs hP hD hS => ?_)
    refine lv_if_ne (tgt := 34) hx hb dX4_readWrong_29 (by decide) (fun (c_2 : ¬ ((rnF sg ln 0 30 ((rsF sg ln 45 u.1).2)).1) = 0) => ?_) (fun (c_2 : ((rnF sg ln 0 30 ((rsF sg ln 45 u.1).2)).1) = 0) => ?_)
    · refine lv_aload_n hx hb dX4_readWrong_34 rfl (lv_at hl 1 rfl) ?_
      refine lv_iload_n hx hb dX4_readWrong_35 rfl (lv_at hl 0 rfl) ?_
      refine lv_if_eq (tgt := 47) hx hb dX4_readWrong_36 (by decide) (fun q9 => absurd q9 (show ¬ ((rsF sg ln 45 u.1).1) = 0 from c_1)) (fun c_3 => ?_)
      refine lv_aload_n hx hb dX4_readWrong_39 rfl (lv_at hl 1 rfl) ?_
      refine x_get (v := .int ((rnF sg ln 0 30 ((rsF sg ln 45 u.1).2)).2.2)) X 0 6 in_X4 hP rfl rfl (by decide) wF_X4_63 rfl rfl dX4_readWrong_40 ?_
      refine lv_ineg hx hb dX4_readWrong_43 ?_
      refine lv_goto (tgt := 51) hx hb dX4_readWrong_44 (by decide) ?_
      refine x_put (v := .int (-((rnF sg ln 0 30 ((rsF sg ln 45 u.1).2)).2.2))) (ty0 := tyX4) (ws2 := XU g xa sa ln ((rnF sg ln 0 30 ((rsF sg ln 45 u.1).2)).2.1, u.2.1, u.2.2.1, u.2.2.2.1, (-((rnF sg ln 0 30 ((rsF sg ln 45 u.1).2)).2.2))) sg) X 0 6 in_X4 tyX4_ok nmX4 hP hD hS rfl rfl (by decide) wF_X4_63 rfl rfl rfl rfl (Nat.le_of_ble_eq_true rfl) rfl dX4_readWrong_51 (fun H locs hP hD hS => ?_)
      refine lv_iconst (v := 1) hx hb dX4_readWrong_54 (by decide) ?_
      have E : (XU g xa sa ln ((rnF sg ln 0 30 ((rsF sg ln 45 u.1).2)).2.1, u.2.1, u.2.2.1, u.2.2.2.1, (-((rnF sg ln 0 30 ((rsF sg ln 45 u.1).2)).2.2))) sg : va_W) = (XU g xa sa ln ((rgF sg ln u.2.2.2.2 u.1).2.1, u.2.1, u.2.2.1, u.2.2.2.1, (rgF sg ln u.2.2.2.2 u.1).2.2) sg) := by simp only [rgF, rwN, if_neg c_1, if_neg c_2]
      exact x_zret X hr hlocks rfl (pw E hP) (dw E hD) hS (by simp only [rgF, rwN, if_neg c_1, if_neg c_2]) dX4_readWrong_55
    · refine lv_iconst (v := 0) hx hb dX4_readWrong_32 (by decide) ?_
      have E : (XU g xa sa ln ((rnF sg ln 0 30 ((rsF sg ln 45 u.1).2)).2.1, u.2.1, u.2.2.1, u.2.2.2.1, (rnF sg ln 0 30 ((rsF sg ln 45 u.1).2)).2.2) sg : va_W) = (XU g xa sa ln ((rgF sg ln u.2.2.2.2 u.1).2.1, u.2.1, u.2.2.1, u.2.2.2.1, (rgF sg ln u.2.2.2.2 u.1).2.2) sg) := by simp only [rgF, rwN, if_neg c_1, if_pos c_2]
      exact x_zret X hr hlocks rfl (pw E hP) (dw E hD) hS (by simp only [rgF, rwN, if_neg c_1, if_pos c_2]) dX4_readWrong_33
  · refine lv_aload_n hx hb dX4_readWrong_11 rfl (lv_at hl 1 rfl) ?_
    refine lv_bipush (v := 43) hx hb dX4_readWrong_12 (by decide) ?_
    refine x_goI (wn := XU g xa sa ln ((rsF sg ln 43 ((rsF sg ln 45 u.1).2)).2, u.2.1, u.2.2.1, u.2.2.2.1, u.2.2.2.2) sg) (x_rV (As := [.int 43]) X (c_X4_readSign l g xa sa ln hln ((rsF sg ln 45 u.1).2, u.2.1, u.2.2.1, u.2.2.2.1, u.2.2.2.2) (rsF_le sg ln 45 hp) sg 43 _) yf_X4_readSign yi_X4_readSign wM_X4_29 ⟨Nat.le_of_ble_eq_true rfl, Nat.le_of_ble_eq_true rfl⟩ hP hD (p_all _) 0 rfl rfl hl rfl rfl (Nat.le_of_ble_eq_true rfl) dX4_readWrong_14 ⟨Nat.zero_le _, Nat.zero_le _⟩) hP hD hS hA (p_all _) (p_back _) (fun H locs hP hD hS => ?_)
    refine lv_if_ne (tgt := 22) hx hb dX4_readWrong_17 (by decide) (fun (c_4 : ¬ ((rsF sg ln 43 ((rsF sg ln 45 u.1).2)).1) = 0) => ?_) (fun (c_4 : ((rsF sg ln 43 ((rsF sg ln 45 u.1).2)).1) = 0) => ?_)
    · refine lv_aload_n hx hb dX4_readWrong_22 rfl (lv_at hl 1 rfl) ?_
      refine lv_iconst (v := 0) hx hb dX4_readWrong_23 (by decide) ?_
      refine lv_bipush (v := 30) hx hb dX4_readWrong_24 (by decide) ?_
      refine x_goI (wn := XU g xa sa ln ((rnF sg ln 0 30 ((rsF sg ln 43 ((rsF sg ln 45 u.1).2)).2)).2.1, u.2.1, u.2.2.1, u.2.2.2.1, (rnF sg ln 0 30 ((rsF sg ln 43 ((rsF sg ln 45 u.1).2)).2)).2.2) sg) (x_rV (As := [.int 0, .int 30]) X (c_X4_readNumber l g xa sa ln hln ((rsF sg ln 43 ((rsF sg ln 45 u.1).2)).2, u.2.1, u.2.2.1, u.2.2.2.1, u.2.2.2.2) (rsF_le sg ln 43 (rsF_le sg ln 45 hp)) sg 0 30 _) yf_X4_readNumber yi_X4_readNumber wM_X4_45 ⟨Nat.le_of_ble_eq_true rfl, Nat.le_of_ble_eq_true rfl⟩ hP hD (p_all _) 0 rfl rfl hl rfl rfl (Nat.le_of_ble_eq_true rfl) dX4_readWrong_26 ⟨Nat.zero_le _, Nat.zero_le _⟩) hP hD hS hA (p_all _) (p_back _) (fun H locs hP hD hS => ?_)
      refine lv_if_ne (tgt := 34) hx hb dX4_readWrong_29 (by decide) (fun (c_5 : ¬ ((rnF sg ln 0 30 ((rsF sg ln 43 ((rsF sg ln 45 u.1).2)).2)).1) = 0) => ?_) (fun (c_5 : ((rnF sg ln 0 30 ((rsF sg ln 43 ((rsF sg ln 45 u.1).2)).2)).1) = 0) => ?_)
      · refine lv_aload_n hx hb dX4_readWrong_34 rfl (lv_at hl 1 rfl) ?_
        refine lv_iload_n hx hb dX4_readWrong_35 rfl (lv_at hl 0 rfl) ?_
        refine lv_if_eq (tgt := 47) hx hb dX4_readWrong_36 (by decide) (fun c_6 => ?_) (fun q9 => absurd (show ((rsF sg ln 45 u.1).1) = 0 from c_1) (show ¬ (((rsF sg ln 45 u.1).1) = 0) from q9))
        refine lv_aload_n hx hb dX4_readWrong_47 rfl (lv_at hl 1 rfl) ?_
        refine x_get (v := .int ((rnF sg ln 0 30 ((rsF sg ln 43 ((rsF sg ln 45 u.1).2)).2)).2.2)) X 0 6 in_X4 hP rfl rfl (by decide) wF_X4_63 rfl rfl dX4_readWrong_48 ?_
        refine x_put (v := .int ((rnF sg ln 0 30 ((rsF sg ln 43 ((rsF sg ln 45 u.1).2)).2)).2.2)) (ty0 := tyX4) (ws2 := XU g xa sa ln ((rnF sg ln 0 30 ((rsF sg ln 43 ((rsF sg ln 45 u.1).2)).2)).2.1, u.2.1, u.2.2.1, u.2.2.2.1, ((rnF sg ln 0 30 ((rsF sg ln 43 ((rsF sg ln 45 u.1).2)).2)).2.2)) sg) X 0 6 in_X4 tyX4_ok nmX4 hP hD hS rfl rfl (by decide) wF_X4_63 rfl rfl rfl rfl (Nat.le_of_ble_eq_true rfl) rfl dX4_readWrong_51 (fun H locs hP hD hS => ?_)
        refine lv_iconst (v := 1) hx hb dX4_readWrong_54 (by decide) ?_
        have E : (XU g xa sa ln ((rnF sg ln 0 30 ((rsF sg ln 43 ((rsF sg ln 45 u.1).2)).2)).2.1, u.2.1, u.2.2.1, u.2.2.2.1, ((rnF sg ln 0 30 ((rsF sg ln 43 ((rsF sg ln 45 u.1).2)).2)).2.2)) sg : va_W) = (XU g xa sa ln ((rgF sg ln u.2.2.2.2 u.1).2.1, u.2.1, u.2.2.1, u.2.2.2.1, (rgF sg ln u.2.2.2.2 u.1).2.2) sg) := by simp only [rgF, rwN, if_pos c_1, if_neg c_4, if_neg c_5]
        exact x_zret X hr hlocks rfl (pw E hP) (dw E hD) hS (by simp only [rgF, rwN, if_pos c_1, if_neg c_4, if_neg c_5]) dX4_readWrong_55
      · refine lv_iconst (v := 0) hx hb dX4_readWrong_32 (by decide) ?_
        have E : (XU g xa sa ln ((rnF sg ln 0 30 ((rsF sg ln 43 ((rsF sg ln 45 u.1).2)).2)).2.1, u.2.1, u.2.2.1, u.2.2.2.1, (rnF sg ln 0 30 ((rsF sg ln 43 ((rsF sg ln 45 u.1).2)).2)).2.2) sg : va_W) = (XU g xa sa ln ((rgF sg ln u.2.2.2.2 u.1).2.1, u.2.1, u.2.2.1, u.2.2.2.1, (rgF sg ln u.2.2.2.2 u.1).2.2) sg) := by simp only [rgF, rwN, if_pos c_1, if_neg c_4, if_pos c_5]
        exact x_zret X hr hlocks rfl (pw E hP) (dw E hD) hS (by simp only [rgF, rwN, if_pos c_1, if_neg c_4, if_pos c_5]) dX4_readWrong_33
    · refine lv_iconst (v := 0) hx hb dX4_readWrong_20 (by decide) ?_
      have E : (XU g xa sa ln ((rsF sg ln 43 ((rsF sg ln 45 u.1).2)).2, u.2.1, u.2.2.1, u.2.2.2.1, u.2.2.2.2) sg : va_W) = (XU g xa sa ln ((rgF sg ln u.2.2.2.2 u.1).2.1, u.2.1, u.2.2.1, u.2.2.2.1, (rgF sg ln u.2.2.2.2 u.1).2.2) sg) := by simp only [rgF, rwN, if_pos c_1, if_pos c_4]
      exact x_zret X hr hlocks rfl (pw E hP) (dw E hD) hS (by simp only [rgF, rwN, if_pos c_1, if_pos c_4]) dX4_readWrong_21

def rwF (sg : Nat → Int32) (ln : Nat) (u : RQ) : Int32 × RQ :=
  if u.1 < ln then
    if sg u.1 = 98 then (rfB (rdF sg ln 0 3 (u.1 + 1)).1, (rdF sg ln 0 3 (u.1 + 1)).2, sg u.1, (rdF sg ln 0 3 (u.1 + 1)).1, u.2.2.2.1, u.2.2.2.2)
    else if sg u.1 = 102 then
      if rfB (rdF sg ln 0 3 (u.1 + 1)).1 = 0 then (0, (rdF sg ln 0 3 (u.1 + 1)).2, sg u.1, (rdF sg ln 0 3 (u.1 + 1)).1, u.2.2.2.1, u.2.2.2.2)
      else (rcF sg ln u.2.2.2.1 (rdF sg ln 0 3 (u.1 + 1)).2).1 |> fun r => (r, (rcF sg ln u.2.2.2.1 (rdF sg ln 0 3 (u.1 + 1)).2).2.1, sg u.1, (rdF sg ln 0 3 (u.1 + 1)).1, (rcF sg ln u.2.2.2.1 (rdF sg ln 0 3 (u.1 + 1)).2).2.2, u.2.2.2.2)
    else if sg u.1 = 107 then
      if (rcF sg ln u.2.2.2.1 (u.1 + 1)).1 = 0 then (0, (rcF sg ln u.2.2.2.1 (u.1 + 1)).2.1, sg u.1, u.2.2.1, (rcF sg ln u.2.2.2.1 (u.1 + 1)).2.2, u.2.2.2.2)
      else ((rgF sg ln u.2.2.2.2 (rcF sg ln u.2.2.2.1 (u.1 + 1)).2.1).1, (rgF sg ln u.2.2.2.2 (rcF sg ln u.2.2.2.1 (u.1 + 1)).2.1).2.1, sg u.1, u.2.2.1, (rcF sg ln u.2.2.2.1 (u.1 + 1)).2.2, (rgF sg ln u.2.2.2.2 (rcF sg ln u.2.2.2.1 (u.1 + 1)).2.1).2.2)
    else if sg u.1 = 111 then (rfB (rdF sg ln 0 3 (u.1 + 1)).1, (rdF sg ln 0 3 (u.1 + 1)).2, sg u.1, (rdF sg ln 0 3 (u.1 + 1)).1, u.2.2.2.1, u.2.2.2.2)
    else if sg u.1 = 119 then ((rnF sg ln 1 2000 (u.1 + 1)).1, (rnF sg ln 1 2000 (u.1 + 1)).2.1, sg u.1, u.2.2.1, u.2.2.2.1, (rnF sg ln 1 2000 (u.1 + 1)).2.2)
    else (0, u.1, sg u.1, u.2.2.1, u.2.2.2.1, u.2.2.2.2)
  else (0, u)
theorem rwF_le (sg : Nat → Int32) (ln : Nat) {u : RQ} (hp : u.1 ≤ ln) : (rwF sg ln u).2.1 ≤ ln := by
  unfold rwF
  by_cases hlt : u.1 < ln
  · have h1 : u.1 + 1 ≤ ln := hlt
    have h2 := rdF_le sg ln 0 3 h1
    have h3 := rcF_le sg ln u.2.2.2.1 h1
    rw [if_pos hlt]
    split
    · exact h2
    · split
      · split
        · exact h2
        · exact rcF_le _ _ _ h2
      · split
        · split
          · exact h3
          · exact rgF_le _ _ _ h3
        · split
          · exact h2
          · split
            · exact rnF_le _ _ _ _ h1
            · exact hp
  · rw [if_neg hlt]; exact hp
theorem rwF_b (sg : Nat → Int32) (ln : Nat) (u : RQ) : (rwF sg ln u).1 = 0 ∨ (rwF sg ln u).1 = 1 := by
  unfold rwF
  split
  · split
    · exact rfB_b _
    · split
      · split
        · exact Or.inl rfl
        · exact rcF_b _ _ _ _
      · split
        · split
          · exact Or.inl rfl
          · exact rgF_b _ _ _ _
        · split
          · exact rfB_b _
          · split
            · exact rnF_b _ _ _ _ _
            · exact Or.inl rfl
  · exact Or.inl rfl
set_option maxHeartbeats 4000000 in
set_option maxRecDepth 100000 in
theorem c_X4_readWork_A (l : Launch) (g : wG) (xa sa ln : Nat) (hln : ln ≤ 60) (u : RQ) (hp : u.1 ≤ ln) (sg : Nat → Int32) (hlt : u.1 < ln) : CtI l g 4 yX4_readWork cX4_readWork 1 (some .boolean) [.ref xa] (XU g xa sa ln u sg) ((rwF sg ln u).1) (XU g xa sa ln (rwF sg ln u).2 sg) := by
  intro sz
  refine x_enter (Qc := fun A => QI g A ((rwF sg ln u).1) (XU g xa sa ln (rwF sg ln u).2 sg)) (by decide) (Nat.le_of_ble_eq_true rfl) ?_
  intro p e s m args below meth c X hr hlocks A hA hP hD hS ls hl
  obtain ⟨⟨hx, hb, hml, hown, hts⟩, hK, hN⟩ := id X
  have hl : lv_has ls 1 [(0, .ref xa)] := hl
  refine lv_aload_n hx hb dX4_readWork_0 rfl (lv_at hl 0 rfl) ?_
  refine x_get (v := .int (nI u.1)) X 0 2 in_X4 hP rfl rfl (by decide) wF_X4_19 rfl rfl dX4_readWork_1 ?_
  refine lv_aload_n hx hb dX4_readWork_4 rfl (lv_at hl 0 rfl) ?_
  refine x_get (v := .int (nI ln)) X 0 1 in_X4 hP rfl rfl (by decide) wF_X4_15 rfl rfl dX4_readWork_5 ?_
  refine lv_icmp_lt (tgt := 13) hx hb dX4_readWork_8 (by decide) (fun c_1 => ?_) (fun q9 => absurd (show (nI u.1) < (nI ln) from ((nI_ltI (by omega) (by omega)).mpr hlt)) (show ¬ ((nI u.1) < (nI ln)) from q9))
  refine lv_aload_n hx hb dX4_readWork_13 rfl (lv_at hl 0 rfl) ?_
  refine lv_aload_n hx hb dX4_readWork_14 rfl (lv_at hl 0 rfl) ?_
  refine x_get (v := .ref sa) X 0 0 in_X4 hP rfl rfl (by decide) wF_X4_9 rfl rfl dX4_readWork_15 ?_
  refine lv_aload_n hx hb dX4_readWork_18 rfl (lv_at hl 0 rfl) ?_
  refine x_get (v := .int (nI u.1)) X 0 2 in_X4 hP rfl rfl (by decide) wF_X4_19 rfl rfl dX4_readWork_19 ?_
  refine x_cald (v := (sg u.1)) X 1 u.1 hP rfl rfl (by omega) (Nat.le_of_ble_eq_true rfl) rfl dX4_readWork_22 ?_
  refine x_put (v := .int (sg u.1)) (ty0 := tyX4) (ws2 := XU g xa sa ln (u.1, (sg u.1), u.2.2.1, u.2.2.2.1, u.2.2.2.2) sg) X 0 3 in_X4 tyX4_ok nmX4 hP hD hS rfl rfl (by decide) wF_X4_33 rfl rfl rfl rfl (Nat.le_of_ble_eq_true rfl) rfl dX4_readWork_23 (fun H locs hP hD hS => ?_)
  refine lv_aload_n hx hb dX4_readWork_26 rfl (lv_at hl 0 rfl) ?_
  refine x_get (v := .int (sg u.1)) X 0 3 in_X4 hP rfl rfl (by decide) wF_X4_33 rfl rfl dX4_readWork_27 ?_
  by_cases k_2 : (sg u.1) = 98
  · refine lv_lookup (off := 129) (tgt := 159) hx hb dX4_readWork_30 (by decide) (by rw [k_2]; rfl) (by decide) ?_
    refine lv_aload_n hx hb dX4_readWork_159 rfl (lv_at hl 0 rfl) ?_
    refine lv_dup hx hb dX4_readWork_160 rfl ?_
    refine x_get (v := .int (nI u.1)) X 0 2 in_X4 hP rfl rfl (by decide) wF_X4_19 rfl rfl dX4_readWork_161 ?_
    refine lv_iconst (v := 1) hx hb dX4_readWork_164 (by decide) ?_
    refine lv_iadd hx hb dX4_readWork_165 ?_
    refine W.eq (g2 := F0 m 166 ls [.int (nI (u.1 + 1)), .ref xa]) (by rw [nI_1]) ?_
    refine x_put (v := .int (nI (u.1 + 1))) (ty0 := tyX4) (ws2 := XU g xa sa ln ((u.1 + 1), (sg u.1), u.2.2.1, u.2.2.2.1, u.2.2.2.2) sg) X 0 2 in_X4 tyX4_ok nmX4 hP hD hS rfl rfl (by decide) wF_X4_19 rfl rfl rfl rfl (Nat.le_of_ble_eq_true rfl) rfl dX4_readWork_166 (fun H locs hP hD hS => ?_)
    refine lv_aload_n hx hb dX4_readWork_169 rfl (lv_at hl 0 rfl) ?_
    refine x_goI (wn := XU g xa sa ln ((rdF sg ln 0 3 (u.1 + 1)).2, (sg u.1), (rdF sg ln 0 3 (u.1 + 1)).1, u.2.2.2.1, u.2.2.2.2) sg) (x_rV (As := []) X (c_X4_readFace l g xa sa ln hln ((u.1 + 1), (sg u.1), u.2.2.1, u.2.2.2.1, u.2.2.2.2) (Nat.succ_le_of_lt hlt) sg  _) yf_X4_readFace yi_X4_readFace wM_X4_36 ⟨Nat.le_of_ble_eq_true rfl, Nat.le_of_ble_eq_true rfl⟩ hP hD (p_all _) 0 rfl rfl hl rfl rfl (Nat.le_of_ble_eq_true rfl) dX4_readWork_170 ⟨Nat.zero_le _, Nat.zero_le _⟩) hP hD hS hA (p_all _) (p_back _) (fun H locs hP hD hS => ?_)
    have E : (XU g xa sa ln ((rdF sg ln 0 3 (u.1 + 1)).2, (sg u.1), (rdF sg ln 0 3 (u.1 + 1)).1, u.2.2.2.1, u.2.2.2.2) sg : va_W) = XU g xa sa ln (rwF sg ln u).2 sg := by simp only [rwF, if_pos hlt, if_pos k_2]
    exact x_zret X hr hlocks (bl_b (rfB_b _)).1 (pw E hP) (dw E hD) hS (by (simp only [rwF, if_pos hlt, if_pos k_2])) dX4_readWork_173
  by_cases k_3 : (sg u.1) = 102
  · refine lv_lookup (off := 50) (tgt := 80) hx hb dX4_readWork_30 (by decide) (by rw [k_3]; rfl) (by decide) ?_
    refine lv_aload_n hx hb dX4_readWork_80 rfl (lv_at hl 0 rfl) ?_
    refine lv_dup hx hb dX4_readWork_81 rfl ?_
    refine x_get (v := .int (nI u.1)) X 0 2 in_X4 hP rfl rfl (by decide) wF_X4_19 rfl rfl dX4_readWork_82 ?_
    refine lv_iconst (v := 1) hx hb dX4_readWork_85 (by decide) ?_
    refine lv_iadd hx hb dX4_readWork_86 ?_
    refine W.eq (g2 := F0 m 87 ls [.int (nI (u.1 + 1)), .ref xa]) (by rw [nI_1]) ?_
    refine x_put (v := .int (nI (u.1 + 1))) (ty0 := tyX4) (ws2 := XU g xa sa ln ((u.1 + 1), (sg u.1), u.2.2.1, u.2.2.2.1, u.2.2.2.2) sg) X 0 2 in_X4 tyX4_ok nmX4 hP hD hS rfl rfl (by decide) wF_X4_19 rfl rfl rfl rfl (Nat.le_of_ble_eq_true rfl) rfl dX4_readWork_87 (fun H locs hP hD hS => ?_)
    refine lv_aload_n hx hb dX4_readWork_90 rfl (lv_at hl 0 rfl) ?_
    refine x_goI (wn := XU g xa sa ln ((rdF sg ln 0 3 (u.1 + 1)).2, (sg u.1), (rdF sg ln 0 3 (u.1 + 1)).1, u.2.2.2.1, u.2.2.2.2) sg) (x_rV (As := []) X (c_X4_readFace l g xa sa ln hln ((u.1 + 1), (sg u.1), u.2.2.1, u.2.2.2.1, u.2.2.2.2) (Nat.succ_le_of_lt hlt) sg  _) yf_X4_readFace yi_X4_readFace wM_X4_36 ⟨Nat.le_of_ble_eq_true rfl, Nat.le_of_ble_eq_true rfl⟩ hP hD (p_all _) 0 rfl rfl hl rfl rfl (Nat.le_of_ble_eq_true rfl) dX4_readWork_91 ⟨Nat.zero_le _, Nat.zero_le _⟩) hP hD hS hA (p_all _) (p_back _) (fun H locs hP hD hS => ?_)
    refine lv_if_eq (tgt := 108) hx hb dX4_readWork_94 (by decide) (fun (c_4 : (rfB (rdF sg ln 0 3 (u.1 + 1)).1) = 0) => ?_) (fun (c_4 : ¬ (rfB (rdF sg ln 0 3 (u.1 + 1)).1) = 0) => ?_)
    · refine lv_iconst (v := 0) hx hb dX4_readWork_108 (by decide) ?_
      have E : (XU g xa sa ln ((rdF sg ln 0 3 (u.1 + 1)).2, (sg u.1), (rdF sg ln 0 3 (u.1 + 1)).1, u.2.2.2.1, u.2.2.2.2) sg : va_W) = XU g xa sa ln (rwF sg ln u).2 sg := by simp only [rwF, if_pos hlt, if_neg k_2, if_pos k_3, if_pos c_4]
      exact x_zret X hr hlocks rfl (pw E hP) (dw E hD) hS (by (simp only [rwF, if_pos hlt, if_neg k_2, if_pos k_3, if_pos c_4])) dX4_readWork_109
    · refine lv_aload_n hx hb dX4_readWork_97 rfl (lv_at hl 0 rfl) ?_
      refine x_goI (wn := XU g xa sa ln ((rcF sg ln u.2.2.2.1 ((rdF sg ln 0 3 (u.1 + 1)).2)).2.1, (sg u.1), (rdF sg ln 0 3 (u.1 + 1)).1, (rcF sg ln u.2.2.2.1 ((rdF sg ln 0 3 (u.1 + 1)).2)).2.2, u.2.2.2.2) sg) (x_rV (As := []) X (c_X4_readClock l g xa sa ln hln ((rdF sg ln 0 3 (u.1 + 1)).2, (sg u.1), (rdF sg ln 0 3 (u.1 + 1)).1, u.2.2.2.1, u.2.2.2.2) (rdF_le sg ln 0 3 (Nat.succ_le_of_lt hlt)) sg  _) yf_X4_readClock yi_X4_readClock wM_X4_39 ⟨Nat.le_of_ble_eq_true rfl, Nat.le_of_ble_eq_true rfl⟩ hP hD (p_all _) 0 rfl rfl hl rfl rfl (Nat.le_of_ble_eq_true rfl) dX4_readWork_98 ⟨Nat.zero_le _, Nat.zero_le _⟩) hP hD hS hA (p_all _) (p_back _) (fun H locs hP hD hS => ?_)
      refine lv_if_eq (tgt := 108) hx hb dX4_readWork_101 (by decide) (fun (c_5 : ((rcF sg ln u.2.2.2.1 ((rdF sg ln 0 3 (u.1 + 1)).2)).1) = 0) => ?_) (fun (c_5 : ¬ ((rcF sg ln u.2.2.2.1 ((rdF sg ln 0 3 (u.1 + 1)).2)).1) = 0) => ?_)
      · refine lv_iconst (v := 0) hx hb dX4_readWork_108 (by decide) ?_
        have E : (XU g xa sa ln ((rcF sg ln u.2.2.2.1 ((rdF sg ln 0 3 (u.1 + 1)).2)).2.1, (sg u.1), (rdF sg ln 0 3 (u.1 + 1)).1, (rcF sg ln u.2.2.2.1 ((rdF sg ln 0 3 (u.1 + 1)).2)).2.2, u.2.2.2.2) sg : va_W) = XU g xa sa ln (rwF sg ln u).2 sg := by simp only [rwF, if_pos hlt, if_neg k_2, if_pos k_3, if_neg c_4, if_pos c_5]
        exact x_zret X hr hlocks rfl (pw E hP) (dw E hD) hS (by (simp only [rwF, if_pos hlt, if_neg k_2, if_pos k_3, if_neg c_4, if_pos c_5]) <;> (first | exact c_5.symm)) dX4_readWork_109
      · refine lv_iconst (v := 1) hx hb dX4_readWork_104 (by decide) ?_
        refine lv_goto (tgt := 109) hx hb dX4_readWork_105 (by decide) ?_
        have c_5b : (rcF sg ln u.2.2.2.1 ((rdF sg ln 0 3 (u.1 + 1)).2)).1 = 1 := (rcF_b _ _ _ _).resolve_left c_5
        have E : (XU g xa sa ln ((rcF sg ln u.2.2.2.1 ((rdF sg ln 0 3 (u.1 + 1)).2)).2.1, (sg u.1), (rdF sg ln 0 3 (u.1 + 1)).1, (rcF sg ln u.2.2.2.1 ((rdF sg ln 0 3 (u.1 + 1)).2)).2.2, u.2.2.2.2) sg : va_W) = XU g xa sa ln (rwF sg ln u).2 sg := by simp only [rwF, if_pos hlt, if_neg k_2, if_pos k_3, if_neg c_4, if_neg c_5]
        exact x_zret X hr hlocks rfl (pw E hP) (dw E hD) hS (by (simp only [rwF, if_pos hlt, if_neg k_2, if_pos k_3, if_neg c_4, if_neg c_5]) <;> (first | exact c_5b.symm)) dX4_readWork_109
  by_cases k_6 : (sg u.1) = 107
  · refine lv_lookup (off := 80) (tgt := 110) hx hb dX4_readWork_30 (by decide) (by rw [k_6]; rfl) (by decide) ?_
    refine lv_aload_n hx hb dX4_readWork_110 rfl (lv_at hl 0 rfl) ?_
    refine lv_dup hx hb dX4_readWork_111 rfl ?_
    refine x_get (v := .int (nI u.1)) X 0 2 in_X4 hP rfl rfl (by decide) wF_X4_19 rfl rfl dX4_readWork_112 ?_
    refine lv_iconst (v := 1) hx hb dX4_readWork_115 (by decide) ?_
    refine lv_iadd hx hb dX4_readWork_116 ?_
    refine W.eq (g2 := F0 m 117 ls [.int (nI (u.1 + 1)), .ref xa]) (by rw [nI_1]) ?_
    refine x_put (v := .int (nI (u.1 + 1))) (ty0 := tyX4) (ws2 := XU g xa sa ln ((u.1 + 1), (sg u.1), u.2.2.1, u.2.2.2.1, u.2.2.2.2) sg) X 0 2 in_X4 tyX4_ok nmX4 hP hD hS rfl rfl (by decide) wF_X4_19 rfl rfl rfl rfl (Nat.le_of_ble_eq_true rfl) rfl dX4_readWork_117 (fun H locs hP hD hS => ?_)
    refine lv_aload_n hx hb dX4_readWork_120 rfl (lv_at hl 0 rfl) ?_
    refine x_goI (wn := XU g xa sa ln ((rcF sg ln u.2.2.2.1 (u.1 + 1)).2.1, (sg u.1), u.2.2.1, (rcF sg ln u.2.2.2.1 (u.1 + 1)).2.2, u.2.2.2.2) sg) (x_rV (As := []) X (c_X4_readClock l g xa sa ln hln ((u.1 + 1), (sg u.1), u.2.2.1, u.2.2.2.1, u.2.2.2.2) (Nat.succ_le_of_lt hlt) sg  _) yf_X4_readClock yi_X4_readClock wM_X4_39 ⟨Nat.le_of_ble_eq_true rfl, Nat.le_of_ble_eq_true rfl⟩ hP hD (p_all _) 0 rfl rfl hl rfl rfl (Nat.le_of_ble_eq_true rfl) dX4_readWork_121 ⟨Nat.zero_le _, Nat.zero_le _⟩) hP hD hS hA (p_all _) (p_back _) (fun H locs hP hD hS => ?_)
    refine lv_if_eq (tgt := 138) hx hb dX4_readWork_124 (by decide) (fun (c_7 : ((rcF sg ln u.2.2.2.1 (u.1 + 1)).1) = 0) => ?_) (fun (c_7 : ¬ ((rcF sg ln u.2.2.2.1 (u.1 + 1)).1) = 0) => ?_)
    · refine lv_iconst (v := 0) hx hb dX4_readWork_138 (by decide) ?_
      have E : (XU g xa sa ln ((rcF sg ln u.2.2.2.1 (u.1 + 1)).2.1, (sg u.1), u.2.2.1, (rcF sg ln u.2.2.2.1 (u.1 + 1)).2.2, u.2.2.2.2) sg : va_W) = XU g xa sa ln (rwF sg ln u).2 sg := by simp only [rwF, if_pos hlt, if_neg k_2, if_neg k_3, if_pos k_6, if_pos c_7]
      exact x_zret X hr hlocks rfl (pw E hP) (dw E hD) hS (by (simp only [rwF, if_pos hlt, if_neg k_2, if_neg k_3, if_pos k_6, if_pos c_7]) <;> (first | exact c_7.symm)) dX4_readWork_139
    · refine lv_aload_n hx hb dX4_readWork_127 rfl (lv_at hl 0 rfl) ?_
      refine x_goI (wn := XU g xa sa ln ((rgF sg ln u.2.2.2.2 ((rcF sg ln u.2.2.2.1 (u.1 + 1)).2.1)).2.1, (sg u.1), u.2.2.1, (rcF sg ln u.2.2.2.1 (u.1 + 1)).2.2, (rgF sg ln u.2.2.2.2 ((rcF sg ln u.2.2.2.1 (u.1 + 1)).2.1)).2.2) sg) (x_rV (As := []) X (c_X4_readWrong l g xa sa ln hln ((rcF sg ln u.2.2.2.1 (u.1 + 1)).2.1, (sg u.1), u.2.2.1, (rcF sg ln u.2.2.2.1 (u.1 + 1)).2.2, u.2.2.2.2) (rcF_le sg ln u.2.2.2.1 (Nat.succ_le_of_lt hlt)) sg  _) yf_X4_readWrong yi_X4_readWrong wM_X4_42 ⟨Nat.le_of_ble_eq_true rfl, Nat.le_of_ble_eq_true rfl⟩ hP hD (p_all _) 0 rfl rfl hl rfl rfl (Nat.le_of_ble_eq_true rfl) dX4_readWork_128 ⟨Nat.zero_le _, Nat.zero_le _⟩) hP hD hS hA (p_all _) (p_back _) (fun H locs hP hD hS => ?_)
      refine lv_if_eq (tgt := 138) hx hb dX4_readWork_131 (by decide) (fun (c_8 : ((rgF sg ln u.2.2.2.2 ((rcF sg ln u.2.2.2.1 (u.1 + 1)).2.1)).1) = 0) => ?_) (fun (c_8 : ¬ ((rgF sg ln u.2.2.2.2 ((rcF sg ln u.2.2.2.1 (u.1 + 1)).2.1)).1) = 0) => ?_)
      · refine lv_iconst (v := 0) hx hb dX4_readWork_138 (by decide) ?_
        have c_7b : (rcF sg ln u.2.2.2.1 (u.1 + 1)).1 = 1 := (rcF_b _ _ _ _).resolve_left c_7
        have E : (XU g xa sa ln ((rgF sg ln u.2.2.2.2 ((rcF sg ln u.2.2.2.1 (u.1 + 1)).2.1)).2.1, (sg u.1), u.2.2.1, (rcF sg ln u.2.2.2.1 (u.1 + 1)).2.2, (rgF sg ln u.2.2.2.2 ((rcF sg ln u.2.2.2.1 (u.1 + 1)).2.1)).2.2) sg : va_W) = XU g xa sa ln (rwF sg ln u).2 sg := by simp only [rwF, if_pos hlt, if_neg k_2, if_neg k_3, if_pos k_6, if_neg c_7, if_pos c_8]
        exact x_zret X hr hlocks rfl (pw E hP) (dw E hD) hS (by (simp only [rwF, if_pos hlt, if_neg k_2, if_neg k_3, if_pos k_6, if_neg c_7, if_pos c_8]) <;> (first | exact c_7b.symm | exact c_8.symm)) dX4_readWork_139
      · refine lv_iconst (v := 1) hx hb dX4_readWork_134 (by decide) ?_
        refine lv_goto (tgt := 139) hx hb dX4_readWork_135 (by decide) ?_
        have c_7b : (rcF sg ln u.2.2.2.1 (u.1 + 1)).1 = 1 := (rcF_b _ _ _ _).resolve_left c_7
        have c_8b : (rgF sg ln u.2.2.2.2 ((rcF sg ln u.2.2.2.1 (u.1 + 1)).2.1)).1 = 1 := (rgF_b _ _ _ _).resolve_left c_8
        have E : (XU g xa sa ln ((rgF sg ln u.2.2.2.2 ((rcF sg ln u.2.2.2.1 (u.1 + 1)).2.1)).2.1, (sg u.1), u.2.2.1, (rcF sg ln u.2.2.2.1 (u.1 + 1)).2.2, (rgF sg ln u.2.2.2.2 ((rcF sg ln u.2.2.2.1 (u.1 + 1)).2.1)).2.2) sg : va_W) = XU g xa sa ln (rwF sg ln u).2 sg := by simp only [rwF, if_pos hlt, if_neg k_2, if_neg k_3, if_pos k_6, if_neg c_7, if_neg c_8]
        exact x_zret X hr hlocks rfl (pw E hP) (dw E hD) hS (by (simp only [rwF, if_pos hlt, if_neg k_2, if_neg k_3, if_pos k_6, if_neg c_7, if_neg c_8]) <;> (first | exact c_7b.symm | exact c_8b.symm)) dX4_readWork_139
  by_cases k_9 : (sg u.1) = 111
  · refine lv_lookup (off := 129) (tgt := 159) hx hb dX4_readWork_30 (by decide) (by rw [k_9]; rfl) (by decide) ?_
    refine lv_aload_n hx hb dX4_readWork_159 rfl (lv_at hl 0 rfl) ?_
    refine lv_dup hx hb dX4_readWork_160 rfl ?_
    refine x_get (v := .int (nI u.1)) X 0 2 in_X4 hP rfl rfl (by decide) wF_X4_19 rfl rfl dX4_readWork_161 ?_
    refine lv_iconst (v := 1) hx hb dX4_readWork_164 (by decide) ?_
    refine lv_iadd hx hb dX4_readWork_165 ?_
    refine W.eq (g2 := F0 m 166 ls [.int (nI (u.1 + 1)), .ref xa]) (by rw [nI_1]) ?_
    refine x_put (v := .int (nI (u.1 + 1))) (ty0 := tyX4) (ws2 := XU g xa sa ln ((u.1 + 1), (sg u.1), u.2.2.1, u.2.2.2.1, u.2.2.2.2) sg) X 0 2 in_X4 tyX4_ok nmX4 hP hD hS rfl rfl (by decide) wF_X4_19 rfl rfl rfl rfl (Nat.le_of_ble_eq_true rfl) rfl dX4_readWork_166 (fun H locs hP hD hS => ?_)
    refine lv_aload_n hx hb dX4_readWork_169 rfl (lv_at hl 0 rfl) ?_
    refine x_goI (wn := XU g xa sa ln ((rdF sg ln 0 3 (u.1 + 1)).2, (sg u.1), (rdF sg ln 0 3 (u.1 + 1)).1, u.2.2.2.1, u.2.2.2.2) sg) (x_rV (As := []) X (c_X4_readFace l g xa sa ln hln ((u.1 + 1), (sg u.1), u.2.2.1, u.2.2.2.1, u.2.2.2.2) (Nat.succ_le_of_lt hlt) sg  _) yf_X4_readFace yi_X4_readFace wM_X4_36 ⟨Nat.le_of_ble_eq_true rfl, Nat.le_of_ble_eq_true rfl⟩ hP hD (p_all _) 0 rfl rfl hl rfl rfl (Nat.le_of_ble_eq_true rfl) dX4_readWork_170 ⟨Nat.zero_le _, Nat.zero_le _⟩) hP hD hS hA (p_all _) (p_back _) (fun H locs hP hD hS => ?_)
    have E : (XU g xa sa ln ((rdF sg ln 0 3 (u.1 + 1)).2, (sg u.1), (rdF sg ln 0 3 (u.1 + 1)).1, u.2.2.2.1, u.2.2.2.2) sg : va_W) = XU g xa sa ln (rwF sg ln u).2 sg := by simp only [rwF, if_pos hlt, if_neg k_2, if_neg k_3, if_neg k_6, if_pos k_9]
    exact x_zret X hr hlocks (bl_b (rfB_b _)).1 (pw E hP) (dw E hD) hS (by (simp only [rwF, if_pos hlt, if_neg k_2, if_neg k_3, if_neg k_6, if_pos k_9])) dX4_readWork_173
  by_cases k_10 : (sg u.1) = 119
  · refine lv_lookup (off := 110) (tgt := 140) hx hb dX4_readWork_30 (by decide) (by rw [k_10]; rfl) (by decide) ?_
    refine lv_aload_n hx hb dX4_readWork_140 rfl (lv_at hl 0 rfl) ?_
    refine lv_dup hx hb dX4_readWork_141 rfl ?_
    refine x_get (v := .int (nI u.1)) X 0 2 in_X4 hP rfl rfl (by decide) wF_X4_19 rfl rfl dX4_readWork_142 ?_
    refine lv_iconst (v := 1) hx hb dX4_readWork_145 (by decide) ?_
    refine lv_iadd hx hb dX4_readWork_146 ?_
    refine W.eq (g2 := F0 m 147 ls [.int (nI (u.1 + 1)), .ref xa]) (by rw [nI_1]) ?_
    refine x_put (v := .int (nI (u.1 + 1))) (ty0 := tyX4) (ws2 := XU g xa sa ln ((u.1 + 1), (sg u.1), u.2.2.1, u.2.2.2.1, u.2.2.2.2) sg) X 0 2 in_X4 tyX4_ok nmX4 hP hD hS rfl rfl (by decide) wF_X4_19 rfl rfl rfl rfl (Nat.le_of_ble_eq_true rfl) rfl dX4_readWork_147 (fun H locs hP hD hS => ?_)
    refine lv_aload_n hx hb dX4_readWork_150 rfl (lv_at hl 0 rfl) ?_
    refine lv_iconst (v := 1) hx hb dX4_readWork_151 (by decide) ?_
    refine lv_sipush (v := 2000) hx hb dX4_readWork_152 (by decide) ?_
    refine x_goI (wn := XU g xa sa ln ((rnF sg ln 1 2000 (u.1 + 1)).2.1, (sg u.1), u.2.2.1, u.2.2.2.1, (rnF sg ln 1 2000 (u.1 + 1)).2.2) sg) (x_rV (As := [.int 1, .int 2000]) X (c_X4_readNumber l g xa sa ln hln ((u.1 + 1), (sg u.1), u.2.2.1, u.2.2.2.1, u.2.2.2.2) (Nat.succ_le_of_lt hlt) sg 1 2000 _) yf_X4_readNumber yi_X4_readNumber wM_X4_45 ⟨Nat.le_of_ble_eq_true rfl, Nat.le_of_ble_eq_true rfl⟩ hP hD (p_all _) 0 rfl rfl hl rfl rfl (Nat.le_of_ble_eq_true rfl) dX4_readWork_155 ⟨Nat.zero_le _, Nat.zero_le _⟩) hP hD hS hA (p_all _) (p_back _) (fun H locs hP hD hS => ?_)
    have E : (XU g xa sa ln ((rnF sg ln 1 2000 (u.1 + 1)).2.1, (sg u.1), u.2.2.1, u.2.2.2.1, (rnF sg ln 1 2000 (u.1 + 1)).2.2) sg : va_W) = XU g xa sa ln (rwF sg ln u).2 sg := by simp only [rwF, if_pos hlt, if_neg k_2, if_neg k_3, if_neg k_6, if_neg k_9, if_pos k_10]
    exact x_zret X hr hlocks (bl_b (rnF_b _ _ _ _ _)).1 (pw E hP) (dw E hD) hS (by (simp only [rwF, if_pos hlt, if_neg k_2, if_neg k_3, if_neg k_6, if_neg k_9, if_pos k_10])) dX4_readWork_158
  refine lv_lookup (off := 144) (tgt := 174) hx hb dX4_readWork_30 (by decide) ((lv_osw k_2 rfl).trans ((lv_osw k_3 rfl).trans ((lv_osw k_6 rfl).trans ((lv_osw k_9 rfl).trans ((lv_osw k_10 rfl).trans (rfl)))))) (by decide) ?_
  refine lv_iconst (v := 0) hx hb dX4_readWork_174 (by decide) ?_
  have E : (XU g xa sa ln (u.1, (sg u.1), u.2.2.1, u.2.2.2.1, u.2.2.2.2) sg : va_W) = XU g xa sa ln (rwF sg ln u).2 sg := by simp only [rwF, if_pos hlt, if_neg k_2, if_neg k_3, if_neg k_6, if_neg k_9, if_neg k_10]
  exact x_zret X hr hlocks rfl (pw E hP) (dw E hD) hS (by (simp only [rwF, if_pos hlt, if_neg k_2, if_neg k_3, if_neg k_6, if_neg k_9, if_neg k_10])) dX4_readWork_175

set_option maxHeartbeats 4000000 in
set_option maxRecDepth 100000 in
theorem c_X4_readWork_B (l : Launch) (g : wG) (xa sa ln : Nat) (hln : ln ≤ 60) (u : RQ) (hp : u.1 ≤ ln) (sg : Nat → Int32) (hlt : ¬ u.1 < ln) : CtI l g 4 yX4_readWork cX4_readWork 1 (some .boolean) [.ref xa] (XU g xa sa ln u sg) ((rwF sg ln u).1) (XU g xa sa ln (rwF sg ln u).2 sg) := by
  intro sz
  refine x_enter (Qc := fun A => QI g A ((rwF sg ln u).1) (XU g xa sa ln (rwF sg ln u).2 sg)) (by decide) (Nat.le_of_ble_eq_true rfl) ?_
  intro p e s m args below meth c X hr hlocks A hA hP hD hS ls hl
  obtain ⟨⟨hx, hb, hml, hown, hts⟩, hK, hN⟩ := id X
  have hl : lv_has ls 1 [(0, .ref xa)] := hl
  refine lv_aload_n hx hb dX4_readWork_0 rfl (lv_at hl 0 rfl) ?_
  refine x_get (v := .int (nI u.1)) X 0 2 in_X4 hP rfl rfl (by decide) wF_X4_19 rfl rfl dX4_readWork_1 ?_
  refine lv_aload_n hx hb dX4_readWork_4 rfl (lv_at hl 0 rfl) ?_
  refine x_get (v := .int (nI ln)) X 0 1 in_X4 hP rfl rfl (by decide) wF_X4_15 rfl rfl dX4_readWork_5 ?_
  refine lv_icmp_lt (tgt := 13) hx hb dX4_readWork_8 (by decide) (fun q9 => absurd q9 (show ¬ (nI u.1) < (nI ln) from (nI_nlt (by omega) (by omega)))) (fun c_1 => ?_)
  refine lv_iconst (v := 0) hx hb dX4_readWork_11 (by decide) ?_
  have E : (XU g xa sa ln u sg : va_W) = XU g xa sa ln (rwF sg ln u).2 sg := by simp only [rwF, if_neg hlt]
  exact x_zret X hr hlocks rfl (pw E hP) (dw E hD) hS (by (simp only [rwF, if_neg hlt])) dX4_readWork_12

theorem c_X4_readWork (l : Launch) (g : wG) (xa sa ln : Nat) (hln : ln ≤ 60) (u : RQ) (hp : u.1 ≤ ln) (sg : Nat → Int32) : CtI l g 4 yX4_readWork cX4_readWork 1 (some .boolean) [.ref xa] (XU g xa sa ln u sg) ((rwF sg ln u).1) (XU g xa sa ln (rwF sg ln u).2 sg) := by
  by_cases hlt : u.1 < ln
  · exact c_X4_readWork_A l g xa sa ln hln u hp sg hlt
  · exact c_X4_readWork_B l g xa sa ln hln u hp sg hlt
def rsU (sg : Nat → Int32) (ln : Nat) (u : RQ) : RQ := ((rsF sg ln 59 u.1).2, u.2)
def feL (sg : Nat → Int32) (ln : Nat) : Nat → RQ → Int32 × RQ
  | 0, u => (nI u.1, u)
  | n + 1, u => if (rwF sg ln u).1 = 0 then (nI (rwF sg ln u).2.1, (rwF sg ln u).2) else if nI (rwF sg ln u).2.1 = nI ln then (-1000, (rwF sg ln u).2) else if (rsF sg ln 59 (rwF sg ln u).2.1).1 = 0 then (nI (rsF sg ln 59 (rwF sg ln u).2.1).2, rsU sg ln (rwF sg ln u).2) else feL sg ln n (rsU sg ln (rwF sg ln u).2)
def feF (sg : Nat → Int32) (ln : Nat) (u : RQ) : Int32 × RQ := feL sg ln ln (0, u.2)
set_option maxHeartbeats 4000000 in
set_option maxRecDepth 100000 in
theorem c_X4_firstError (l : Launch) (g : wG) (xa sa ln : Nat) (hln : ln ≤ 60) (u : RQ) (hp : u.1 ≤ ln) (sg : Nat → Int32) : CtI l g 5 yX4_firstError cX4_firstError 2 (some .int) [.ref xa] (XU g xa sa ln u sg) ((feF sg ln u).1) (XU g xa sa ln (feF sg ln u).2 sg) := by
  intro sz
  refine x_enter (Qc := fun A => QI g A ((feF sg ln u).1) (XU g xa sa ln (feF sg ln u).2 sg)) (by decide) (Nat.le_of_ble_eq_true rfl) ?_
  intro p e s m args below meth c X hr hlocks A hA hP hD hS ls hl
  obtain ⟨⟨hx, hb, hml, hown, hts⟩, hK, hN⟩ := id X
  have hl : lv_has ls 2 [(0, .ref xa)] := hl
  refine lv_aload_n hx hb dX4_firstError_0 rfl (lv_at hl 0 rfl) ?_
  refine x_goV (wn := XU g xa sa ln (0, u.2.1, u.2.2.1, u.2.2.2.1, u.2.2.2.2) sg) (x_rV (As := []) X (c_X4_goToStart l g xa sa ln hln u hp sg  _) yf_X4_goToStart yi_X4_goToStart wM_X4_22 ⟨Nat.le_of_ble_eq_true rfl, Nat.le_of_ble_eq_true rfl⟩ hP hD (p_all _) 0 rfl rfl hl rfl rfl (Nat.le_of_ble_eq_true rfl) dX4_firstError_1 ⟨Nat.zero_le _, Nat.zero_le _⟩) hP hD hS hA (p_all _) (p_back _) (fun H locs hP hD hS => ?_)
  refine lv_iconst (v := 0) hx hb dX4_firstError_4 (by decide) ?_
  refine lv_istore_n (lv' := [(1, .int 0), (0, .ref xa)]) hx hb dX4_firstError_5 rfl hl (by decide) rfl (fun ls hl => ?_)
  suffices LP6 : ∀ (n : Nat) (k : Nat) (v : RQ), k + n = ln → v.1 ≤ ln → feL sg ln n v = feF sg ln u → ∀ (ls : Array Slot) (H : Heap) (locs : List Loc), va_P g.1 vwCl (XU g xa sa ln v sg) H → va_D A (XU g xa sa ln v sg) → va_S A s.heap H locs → lv_has ls 2 [(1, .int (nI k)), (0, .ref xa)] → W p l e (rmD 5) s m args below meth c H locs 0 0 (MQ below (QI g A ((feF sg ln u).1) (XU g xa sa ln (feF sg ln u).2 sg)) args s 0 0 A) (F0 m 6 ls []) from LP6 ln 0 (0, u.2) (Nat.zero_add ln) (Nat.zero_le _) rfl ls _ _ hP hD hS (lv_sub hl [0, 1] rfl)
  intro n
  induction n with
  | zero =>
    intro k v hk hv ht ls H locs hP hD hS hl
    refine lv_iload_n hx hb dX4_firstError_6 rfl (lv_at hl 0 rfl) ?_
    refine lv_aload_n hx hb dX4_firstError_7 rfl (lv_at hl 1 rfl) ?_
    refine x_get (v := .int (nI ln)) X 0 1 in_X4 hP rfl rfl (by decide) wF_X4_15 rfl rfl dX4_firstError_8 ?_
    refine lv_icmp_ge (tgt := 61) hx hb dX4_firstError_11 (by decide) (fun c_1 => ?_) (fun q9 => absurd (show (nI ln) ≤ (nI k) from (nI_le (by omega) (by omega))) (show ¬ ((nI ln) ≤ (nI k)) from q9))
    refine lv_aload_n hx hb dX4_firstError_61 rfl (lv_at hl 1 rfl) ?_
    refine x_get (v := .int (nI v.1)) X 0 2 in_X4 hP rfl rfl (by decide) wF_X4_19 rfl rfl dX4_firstError_62 ?_
    have E : (XU g xa sa ln v sg : va_W) = XU g xa sa ln (feF sg ln u).2 sg := by rw [← ht]; simp only [feL] <;> rfl
    exact x_iret X hr hlocks (pw E hP) (dw E hD) hS (by rw [← ht]; simp only [feL]) dX4_firstError_65
  | succ n ih =>
    intro k v hk hv ht ls H locs hP hD hS hl
    refine lv_iload_n hx hb dX4_firstError_6 rfl (lv_at hl 0 rfl) ?_
    refine lv_aload_n hx hb dX4_firstError_7 rfl (lv_at hl 1 rfl) ?_
    refine x_get (v := .int (nI ln)) X 0 1 in_X4 hP rfl rfl (by decide) wF_X4_15 rfl rfl dX4_firstError_8 ?_
    refine lv_icmp_ge (tgt := 61) hx hb dX4_firstError_11 (by decide) (fun q9 => absurd q9 (show ¬ (nI ln) ≤ (nI k) from (nI_ge (by omega) (by omega)))) (fun c_2 => ?_)
    refine lv_aload_n hx hb dX4_firstError_14 rfl (lv_at hl 1 rfl) ?_
    refine x_goI (wn := XU g xa sa ln ((rwF sg ln v).2) sg) (x_rV (As := []) X (c_X4_readWork l g xa sa ln hln v hv sg  _) yf_X4_readWork yi_X4_readWork wM_X4_25 ⟨Nat.le_of_ble_eq_true rfl, Nat.le_of_ble_eq_true rfl⟩ hP hD (p_all _) 0 rfl rfl hl rfl rfl (Nat.le_of_ble_eq_true rfl) dX4_firstError_15 ⟨Nat.zero_le _, Nat.zero_le _⟩) hP hD hS hA (p_all _) (p_back _) (fun H locs hP hD hS => ?_)
    refine lv_if_ne (tgt := 26) hx hb dX4_firstError_18 (by decide) (fun (c_3 : ¬ ((rwF sg ln v).1) = 0) => ?_) (fun (c_3 : ((rwF sg ln v).1) = 0) => ?_)
    · refine lv_aload_n hx hb dX4_firstError_26 rfl (lv_at hl 1 rfl) ?_
      refine x_get (v := .int (nI ((rwF sg ln v).2.1))) X 0 2 in_X4 hP rfl rfl (by decide) wF_X4_19 rfl rfl dX4_firstError_27 ?_
      refine lv_aload_n hx hb dX4_firstError_30 rfl (lv_at hl 1 rfl) ?_
      refine x_get (v := .int (nI ln)) X 0 1 in_X4 hP rfl rfl (by decide) wF_X4_15 rfl rfl dX4_firstError_31 ?_
      refine lv_icmp_ne (tgt := 41) hx hb dX4_firstError_34 (by decide) (fun (c_4 : ¬ (nI ((rwF sg ln v).2.1)) = (nI ln)) => ?_) (fun (c_4 : (nI ((rwF sg ln v).2.1)) = (nI ln)) => ?_)
      · refine lv_aload_n hx hb dX4_firstError_41 rfl (lv_at hl 1 rfl) ?_
        refine lv_bipush (v := 59) hx hb dX4_firstError_42 (by decide) ?_
        refine x_goI (wn := XU g xa sa ln ((rsF sg ln 59 ((rwF sg ln v).2.1)).2, (rwF sg ln v).2.2.1, (rwF sg ln v).2.2.2.1, (rwF sg ln v).2.2.2.2.1, (rwF sg ln v).2.2.2.2.2) sg) (x_rV (As := [.int 59]) X (c_X4_readSign l g xa sa ln hln ((rwF sg ln v).2) (rwF_le _ _ hv) sg 59 _) yf_X4_readSign yi_X4_readSign wM_X4_29 ⟨Nat.le_of_ble_eq_true rfl, Nat.le_of_ble_eq_true rfl⟩ hP hD (p_all _) 0 rfl rfl hl rfl rfl (Nat.le_of_ble_eq_true rfl) dX4_firstError_44 ⟨Nat.zero_le _, Nat.zero_le _⟩) hP hD hS hA (p_all _) (p_back _) (fun H locs hP hD hS => ?_)
        refine lv_if_ne (tgt := 55) hx hb dX4_firstError_47 (by decide) (fun (c_5 : ¬ ((rsF sg ln 59 ((rwF sg ln v).2.1)).1) = 0) => ?_) (fun (c_5 : ((rsF sg ln 59 ((rwF sg ln v).2.1)).1) = 0) => ?_)
        · refine lv_iinc (v := (nI (k + 1))) (lv' := [(1, .int (nI (k + 1))), (0, .ref xa)]) hx hb dX4_firstError_55 hl (k := 0) rfl (nI_1 _) (by decide) rfl (fun ls hl => ?_)
          refine lv_goto (tgt := 6) hx hb dX4_firstError_58 (by decide) ?_
          exact ih (k + 1) (rsU sg ln (rwF sg ln v).2) (by omega) (rsF_le _ _ _ (rwF_le _ _ hv)) (by rw [← ht]; simp only [feL, if_neg c_3, if_neg c_4, if_neg c_5]) ls _ _ hP hD hS (lv_sub hl [0, 1] rfl)
        · refine lv_aload_n hx hb dX4_firstError_50 rfl (lv_at hl 1 rfl) ?_
          refine x_get (v := .int (nI ((rsF sg ln 59 ((rwF sg ln v).2.1)).2))) X 0 2 in_X4 hP rfl rfl (by decide) wF_X4_19 rfl rfl dX4_firstError_51 ?_
          have E : (XU g xa sa ln ((rsF sg ln 59 ((rwF sg ln v).2.1)).2, (rwF sg ln v).2.2.1, (rwF sg ln v).2.2.2.1, (rwF sg ln v).2.2.2.2.1, (rwF sg ln v).2.2.2.2.2) sg : va_W) = XU g xa sa ln (feF sg ln u).2 sg := by rw [← ht]; simp only [feL, if_neg c_3, if_neg c_4, if_pos c_5] <;> rfl
          exact x_iret X hr hlocks (pw E hP) (dw E hD) hS (by rw [← ht]; simp only [feL, if_neg c_3, if_neg c_4, if_pos c_5]) dX4_firstError_54
      · refine lv_sipush (v := (-1000)) hx hb dX4_firstError_37 (by decide) ?_
        have E : (XU g xa sa ln ((rwF sg ln v).2) sg : va_W) = XU g xa sa ln (feF sg ln u).2 sg := by rw [← ht]; simp only [feL, if_neg c_3, if_pos c_4] <;> rfl
        exact x_iret X hr hlocks (pw E hP) (dw E hD) hS (by rw [← ht]; simp only [feL, if_neg c_3, if_pos c_4]) dX4_firstError_40
    · refine lv_aload_n hx hb dX4_firstError_21 rfl (lv_at hl 1 rfl) ?_
      refine x_get (v := .int (nI ((rwF sg ln v).2.1))) X 0 2 in_X4 hP rfl rfl (by decide) wF_X4_19 rfl rfl dX4_firstError_22 ?_
      have E : (XU g xa sa ln ((rwF sg ln v).2) sg : va_W) = XU g xa sa ln (feF sg ln u).2 sg := by rw [← ht]; simp only [feL, if_pos c_3] <;> rfl
      exact x_iret X hr hlocks (pw E hP) (dw E hD) hS (by rw [← ht]; simp only [feL, if_pos c_3]) dX4_firstError_25

set_option maxHeartbeats 4000000 in
set_option maxRecDepth 100000 in
theorem c_X4_add (l : Launch) (g : wG) (xa sa ln : Nat) (hlt : ln < 60) (u : RQ) (sg : Nat → Int32) (x : Int32) (hch : vp_nar .char x = x) : CtV l g 0 yX4_add cX4_add 2 none [.ref xa, .int x] (XU g xa sa ln u sg) (XU g xa sa (ln + 1) u (upd sg ln x)) := by
  intro sz
  refine x_enter (Qc := fun A => QV g A (XU g xa sa (ln + 1) u (upd sg ln x))) (by decide) (Nat.le_of_ble_eq_true rfl) ?_
  intro p e s m args below meth c X hr hlocks A hA hP hD hS ls hl
  obtain ⟨⟨hx, hb, hml, hown, hts⟩, hK, hN⟩ := id X
  have hl : lv_has ls 2 [(0, .ref xa), (1, .int x)] := hl
  refine lv_aload_n hx hb dX4_add_0 rfl (lv_at hl 0 rfl) ?_
  refine x_get (v := .int (nI ln)) X 0 1 in_X4 hP rfl rfl (by decide) wF_X4_15 rfl rfl dX4_add_1 ?_
  refine lv_bipush (v := 60) hx hb dX4_add_4 (by decide) ?_
  refine lv_icmp_ge (tgt := 29) hx hb dX4_add_6 (by decide) (fun q9 => absurd q9 (show ¬ 60 ≤ (nI ln) from (nI_ge (b := 60) hlt (by decide)))) (fun c_1 => ?_)
  refine lv_aload_n hx hb dX4_add_9 rfl (lv_at hl 0 rfl) ?_
  refine x_get (v := .ref sa) X 0 0 in_X4 hP rfl rfl (by decide) wF_X4_9 rfl rfl dX4_add_10 ?_
  refine lv_aload_n hx hb dX4_add_13 rfl (lv_at hl 0 rfl) ?_
  refine x_get (v := .int (nI ln)) X 0 1 in_X4 hP rfl rfl (by decide) wF_X4_15 rfl rfl dX4_add_14 ?_
  refine lv_iload_n hx hb dX4_add_17 rfl (lv_at hl 1 rfl) ?_
  refine x_cast (ws2 := XU g xa sa ln u (upd sg ln x)) X 1 ln hP hD hS rfl rfl (by omega) (Nat.le_of_ble_eq_true rfl) hch rfl dX4_add_18 (fun H locs hP hD hS => ?_)
  refine lv_aload_n hx hb dX4_add_19 rfl (lv_at hl 0 rfl) ?_
  refine lv_dup hx hb dX4_add_20 rfl ?_
  refine x_get (v := .int (nI ln)) X 0 1 in_X4 hP rfl rfl (by decide) wF_X4_15 rfl rfl dX4_add_21 ?_
  refine lv_iconst (v := 1) hx hb dX4_add_24 (by decide) ?_
  refine lv_iadd hx hb dX4_add_25 ?_
  refine W.eq (g2 := F0 m 26 ls [.int (nI (ln + 1)), .ref xa]) (by rw [nI_1]) ?_
  refine x_put (v := .int (nI (ln + 1))) (ty0 := tyX4) (ws2 := XU g xa sa (ln + 1) u (upd sg ln x)) X 0 1 in_X4 tyX4_ok nmX4 hP hD hS rfl rfl (by decide) wF_X4_15 rfl rfl rfl rfl (Nat.le_of_ble_eq_true rfl) rfl dX4_add_26 (fun H locs hP hD hS => ?_)
  exact x_vret X hr hlocks hP hD hS dX4_add_29

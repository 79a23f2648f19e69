def cmI (z : RI) (b mi : Int32) : Nat → Nat → Nat → Int32 → Bool × Int32
  | 0, _, _, q => (false, q)
  | n + 1, f, k, q => if z (f + 5) = 1 then (if strM (jrem (z f + mi) 720) ≤ 0 then cmI z b mi n (f + 7) (k + 1) q else if q = 0 then (true, if b = 0 then nI k else if b = 1 then mi else strM (jrem (z f + mi) 720)) else cmI z b mi n (f + 7) (k + 1) (q + -1)) else cmI z b mi n (f + 7) (k + 1) q
theorem cmI_n {z : RI} {b mi q : Int32} {n f k : Nat} (h : ¬ z (f + 5) = 1) : cmI z b mi (n + 1) f k q = cmI z b mi n (f + 7) (k + 1) q := if_neg h
theorem cmI_0 {z : RI} {b mi q : Int32} {n f k : Nat} (h : z (f + 5) = 1) (h2 : strM (jrem (z f + mi) 720) ≤ 0) : cmI z b mi (n + 1) f k q = cmI z b mi n (f + 7) (k + 1) q := (if_pos h).trans (if_pos h2)
theorem cmI_1 {z : RI} {b mi q : Int32} {n f k : Nat} (h : z (f + 5) = 1) (h2 : ¬ strM (jrem (z f + mi) 720) ≤ 0) (h3 : ¬ q = 0) : cmI z b mi (n + 1) f k q = cmI z b mi n (f + 7) (k + 1) (q + -1) := (if_pos h).trans ((if_neg h2).trans (if_neg h3))
theorem cmI_r {z : RI} {b mi q : Int32} {n f k : Nat} (h : z (f + 5) = 1) (h2 : ¬ strM (jrem (z f + mi) 720) ≤ 0) (h3 : q = 0) : cmI z b mi (n + 1) f k q = (true, if b = 0 then nI k else if b = 1 then mi else strM (jrem (z f + mi) 720)) := (if_pos h).trans ((if_neg h2).trans (if_pos h3))
theorem cmI_r0 {z : RI} {b mi q : Int32} {n f k : Nat} (h : z (f + 5) = 1) (h2 : ¬ strM (jrem (z f + mi) 720) ≤ 0) (h3 : q = 0) (h4 : b = 0) : cmI z b mi (n + 1) f k q = (true, nI k) := by rw [cmI_r h h2 h3, if_pos h4]
theorem cmI_r1 {z : RI} {b mi q : Int32} {n f k : Nat} (h : z (f + 5) = 1) (h2 : ¬ strM (jrem (z f + mi) 720) ≤ 0) (h3 : q = 0) (h4 : ¬ b = 0) (h5 : b = 1) : cmI z b mi (n + 1) f k q = (true, mi) := by rw [cmI_r h h2 h3, if_neg h4, if_pos h5]
theorem cmI_r2 {z : RI} {b mi q : Int32} {n f k : Nat} (h : z (f + 5) = 1) (h2 : ¬ strM (jrem (z f + mi) 720) ≤ 0) (h3 : q = 0) (h4 : ¬ b = 0) (h5 : ¬ b = 1) : cmI z b mi (n + 1) f k q = (true, strM (jrem (z f + mi) 720)) := by rw [cmI_r h h2 h3, if_neg h4, if_neg h5]
def cmO (z : RI) (b : Int32) : Nat → Nat → Int32 → Int32
  | 0, _, _ => -1000
  | n + 1, k, q => if (cmI z b (nI k) 4 8 0 q).1 = true then (cmI z b (nI k) 4 8 0 q).2 else cmO z b n (k + 1) (cmI z b (nI k) 4 8 0 q).2
theorem cmO_s {z : RI} {b q q1 : Int32} {n k : Nat} (h : (false, q1) = cmI z b (nI k) 4 8 0 q) : cmO z b (n + 1) k q = cmO z b n (k + 1) q1 := by
  simp only [cmO]
  rw [← h]
  exact if_neg Bool.false_ne_true
theorem cmO_r {z : RI} {b q x : Int32} {n k : Nat} (h : (true, x) = cmI z b (nI k) 4 8 0 q) : cmO z b (n + 1) k q = x := by
  simp only [cmO]
  rw [← h]
  exact if_pos rfl
def mComing (r : MS) (a b : Int32) (nf : Nat) : Int32 := if isw a 0 23 = 0 then -1002 else if isw b 0 2 = 0 then -1002 else cmO (mZ r) b nf 1 a
set_option maxHeartbeats 4000000 in
set_option maxRecDepth 100000 in
theorem c_X6_coming_a (l : Launch) (g : wG) (o : Nat → Nat) (r : MS) (a b : Int32) (nf : Nat) (hi : isw a 0 23 = 0) : CtI l g 2 yX6_coming cX6_coming 7 (some .int) [.ref (o 0), .int a, .int b] (MW g o r) (mComing r a b nf) (MW g o r) := by
  intro sz
  refine x_enter (Qc := fun A => QI g A (mComing r a b nf) (MW g o r)) (by decide) (Nat.le_of_ble_eq_true rfl) ?_
  intro p e s m args below meth c X hr hlocks A hA hP hD hS ls hl
  obtain ⟨⟨hx, hb, hml, hown, hts⟩, hK, hN⟩ := id X
  have hl : lv_has ls 7 [(0, .ref (o 0)), (1, .int a), (2, .int b)] := hl
  refine lv_iload_n hx hb dX6_coming_0 rfl (lv_at hl 1 rfl) ?_
  refine lv_iconst (v := 0) hx hb dX6_coming_1 (by decide) ?_
  refine lv_bipush (v := 23) hx hb dX6_coming_2 (by decide) ?_
  refine x_goI (wn := MW g o r) (x_rS (As := [.int a, .int 0, .int 23]) X (c_X6_in l g a 0 23 _) yf_X6_in ys_X6_in wM_X6_33 ⟨Nat.le_of_ble_eq_true rfl, Nat.le_of_ble_eq_true rfl⟩ hP hD (p_none _) hl rfl rfl (Nat.le_of_ble_eq_true rfl) dX6_coming_4 ⟨Nat.zero_le _, Nat.zero_le _⟩) hP hD hS hA (p_none _) (p_noneB _) (fun H locs hP hD hS => ?_)
  refine lv_if_eq (tgt := 19) hx hb dX6_coming_7 (by decide) (fun c_1 => ?_) (fun q9 => absurd (show (isw a 0 23) = 0 from hi) (show ¬ ((isw a 0 23) = 0) from q9))
  refine lv_sipush (v := (-1002)) hx hb dX6_coming_19 (by decide) ?_
  exact x_iret X hr hlocks hP hD hS (by simp only [mComing, if_pos hi]) dX6_coming_22

set_option maxHeartbeats 4000000 in
set_option maxRecDepth 100000 in
theorem c_X6_coming_b (l : Launch) (g : wG) (o : Nat → Nat) (r : MS) (a b : Int32) (nf : Nat) (ha2 : ¬ isw a 0 23 = 0) (hi : isw b 0 2 = 0) : CtI l g 2 yX6_coming cX6_coming 7 (some .int) [.ref (o 0), .int a, .int b] (MW g o r) (mComing r a b nf) (MW g o r) := by
  intro sz
  refine x_enter (Qc := fun A => QI g A (mComing r a b nf) (MW g o r)) (by decide) (Nat.le_of_ble_eq_true rfl) ?_
  intro p e s m args below meth c X hr hlocks A hA hP hD hS ls hl
  obtain ⟨⟨hx, hb, hml, hown, hts⟩, hK, hN⟩ := id X
  have hl : lv_has ls 7 [(0, .ref (o 0)), (1, .int a), (2, .int b)] := hl
  refine lv_iload_n hx hb dX6_coming_0 rfl (lv_at hl 1 rfl) ?_
  refine lv_iconst (v := 0) hx hb dX6_coming_1 (by decide) ?_
  refine lv_bipush (v := 23) hx hb dX6_coming_2 (by decide) ?_
  refine x_goI (wn := MW g o r) (x_rS (As := [.int a, .int 0, .int 23]) X (c_X6_in l g a 0 23 _) yf_X6_in ys_X6_in wM_X6_33 ⟨Nat.le_of_ble_eq_true rfl, Nat.le_of_ble_eq_true rfl⟩ hP hD (p_none _) hl rfl rfl (Nat.le_of_ble_eq_true rfl) dX6_coming_4 ⟨Nat.zero_le _, Nat.zero_le _⟩) hP hD hS hA (p_none _) (p_noneB _) (fun H locs hP hD hS => ?_)
  refine lv_if_eq (tgt := 19) hx hb dX6_coming_7 (by decide) (fun q9 => absurd q9 (show ¬ (isw a 0 23) = 0 from ha2)) (fun c_1 => ?_)
  refine lv_iload_n hx hb dX6_coming_10 rfl (lv_at hl 2 rfl) ?_
  refine lv_iconst (v := 0) hx hb dX6_coming_11 (by decide) ?_
  refine lv_iconst (v := 2) hx hb dX6_coming_12 (by decide) ?_
  refine x_goI (wn := MW g o r) (x_rS (As := [.int b, .int 0, .int 2]) X (c_X6_in l g b 0 2 _) yf_X6_in ys_X6_in wM_X6_33 ⟨Nat.le_of_ble_eq_true rfl, Nat.le_of_ble_eq_true rfl⟩ hP hD (p_none _) hl rfl rfl (Nat.le_of_ble_eq_true rfl) dX6_coming_13 ⟨Nat.zero_le _, Nat.zero_le _⟩) hP hD hS hA (p_none _) (p_noneB _) (fun H locs hP hD hS => ?_)
  refine lv_if_ne (tgt := 23) hx hb dX6_coming_16 (by decide) (fun q9 => absurd (show (isw b 0 2) = 0 from hi) q9) (fun c_2 => ?_)
  refine lv_sipush (v := (-1002)) hx hb dX6_coming_19 (by decide) ?_
  exact x_iret X hr hlocks hP hD hS (by simp only [mComing, if_neg ha2, if_pos hi]) dX6_coming_22

set_option maxHeartbeats 4000000 in
set_option maxRecDepth 100000 in
theorem c_X6_coming_o (l : Launch) (g : wG) (o : Nat → Nat) (r : MS) (a b : Int32) (nf : Nat) (hnf : 1 + nf = 1441) (ha2 : ¬ isw a 0 23 = 0) (hq2 : ¬ isw b 0 2 = 0) : CtI l g 2 yX6_coming cX6_coming 7 (some .int) [.ref (o 0), .int a, .int b] (MW g o r) (cmO (mZ r) b nf 1 a) (MW g o r) := by
  intro sz
  refine x_enter (Qc := fun A => QI g A (cmO (mZ r) b nf 1 a) (MW g o r)) (by decide) (Nat.le_of_ble_eq_true rfl) ?_
  intro p e s m args below meth c X hr hlocks A hA hP hD hS ls hl
  obtain ⟨⟨hx, hb, hml, hown, hts⟩, hK, hN⟩ := id X
  have hl : lv_has ls 7 [(0, .ref (o 0)), (1, .int a), (2, .int b)] := hl
  refine lv_iload_n hx hb dX6_coming_0 rfl (lv_at hl 1 rfl) ?_
  refine lv_iconst (v := 0) hx hb dX6_coming_1 (by decide) ?_
  refine lv_bipush (v := 23) hx hb dX6_coming_2 (by decide) ?_
  refine x_goI (wn := MW g o r) (x_rS (As := [.int a, .int 0, .int 23]) X (c_X6_in l g a 0 23 _) yf_X6_in ys_X6_in wM_X6_33 ⟨Nat.le_of_ble_eq_true rfl, Nat.le_of_ble_eq_true rfl⟩ hP hD (p_none _) hl rfl rfl (Nat.le_of_ble_eq_true rfl) dX6_coming_4 ⟨Nat.zero_le _, Nat.zero_le _⟩) hP hD hS hA (p_none _) (p_noneB _) (fun H locs hP hD hS => ?_)
  refine lv_if_eq (tgt := 19) hx hb dX6_coming_7 (by decide) (fun q9 => absurd q9 (show ¬ (isw a 0 23) = 0 from ha2)) (fun c_1 => ?_)
  refine lv_iload_n hx hb dX6_coming_10 rfl (lv_at hl 2 rfl) ?_
  refine lv_iconst (v := 0) hx hb dX6_coming_11 (by decide) ?_
  refine lv_iconst (v := 2) hx hb dX6_coming_12 (by decide) ?_
  refine x_goI (wn := MW g o r) (x_rS (As := [.int b, .int 0, .int 2]) X (c_X6_in l g b 0 2 _) yf_X6_in ys_X6_in wM_X6_33 ⟨Nat.le_of_ble_eq_true rfl, Nat.le_of_ble_eq_true rfl⟩ hP hD (p_none _) hl rfl rfl (Nat.le_of_ble_eq_true rfl) dX6_coming_13 ⟨Nat.zero_le _, Nat.zero_le _⟩) hP hD hS hA (p_none _) (p_noneB _) (fun H locs hP hD hS => ?_)
  refine lv_if_ne (tgt := 23) hx hb dX6_coming_16 (by decide) (fun c_2 => ?_) (fun q9 => absurd (show (isw b 0 2) = 0 from q9) (show ¬ (isw b 0 2) = 0 from hq2))
  refine lv_iload_n hx hb dX6_coming_23 rfl (lv_at hl 1 rfl) ?_
  refine lv_istore_n (lv' := [(3, .int a), (0, .ref (o 0)), (1, .int a), (2, .int b)]) hx hb dX6_coming_24 rfl hl (by decide) rfl (fun ls hl => ?_)
  refine lv_iconst (v := 1) hx hb dX6_coming_25 (by decide) ?_
  refine lv_istore (lv' := [(4, .int 1), (3, .int a), (0, .ref (o 0)), (1, .int a), (2, .int b)]) hx hb dX6_coming_26 hl (by decide) rfl (fun ls hl => ?_)
  suffices LP28 : ∀ (n : Nat) (k : Nat) (q : Int32), k + n = 1441 → cmO (mZ r) b n k q = cmO (mZ r) b nf 1 a → ∀ (ls : Array Slot) (H : Heap) (locs : List Loc), va_P g.1 vwCl (MW g o r) H → va_D A (MW g o r) → va_S A s.heap H locs → lv_has ls 7 [(4, .int (nI k)), (3, .int q), (2, .int b), (1, .int a), (0, .ref (o 0))] → W p l e (rmD 2) s m args below meth c H locs 0 0 (MQ below (QI g A (cmO (mZ r) b nf 1 a) (MW g o r)) args s 0 0 A) (F0 m 28 ls []) from LP28 nf 1 a hnf rfl ls _ _ hP hD hS (lv_sub hl [0, 1, 4, 3, 2] rfl)
  intro n
  induction n with
  | zero =>
    intro k q hk2 ht ls H locs hP hD hS hl
    refine lv_iload hx hb dX6_coming_28 (lv_at hl 0 rfl) ?_
    refine lv_sipush (v := 1440) hx hb dX6_coming_30 (by decide) ?_
    refine lv_icmp_gt (tgt := 125) hx hb dX6_coming_33 (by decide) (fun c_3 => ?_) (fun q9 => absurd (show 1440 < (nI k) from (nI_lt (a := 1440) (by omega) (by omega))) (show ¬ (1440 < (nI k)) from q9))
    refine lv_sipush (v := (-1000)) hx hb dX6_coming_125 (by decide) ?_
    exact x_iret X hr hlocks hP hD hS ht dX6_coming_128
  | succ n ih =>
    intro k q hk2 ht ls H locs hP hD hS hl
    refine lv_iload hx hb dX6_coming_28 (lv_at hl 0 rfl) ?_
    refine lv_sipush (v := 1440) hx hb dX6_coming_30 (by decide) ?_
    refine lv_icmp_gt (tgt := 125) hx hb dX6_coming_33 (by decide) (fun q9 => absurd q9 (show ¬ 1440 < (nI k) from (nI_nlt (a := 1440) (by omega) (by decide)))) (fun c_4 => ?_)
    refine lv_iconst (v := 0) hx hb dX6_coming_36 (by decide) ?_
    refine lv_istore (lv' := [(5, .int 0), (4, .int (nI k)), (3, .int q), (2, .int b), (1, .int a), (0, .ref (o 0))]) hx hb dX6_coming_37 hl (by decide) rfl (fun ls hl => ?_)
    have LI_4 : ∀ (q1 : Int32), cmI (mZ r) b (nI k) 0 36 4 q1 = cmI (mZ r) b (nI k) 4 8 0 q → ∀ (ls : Array Slot) (H : Heap) (locs : List Loc), va_P g.1 vwCl (MW g o r) H → va_D A (MW g o r) → va_S A s.heap H locs → lv_has ls 7 [(5, .int 4), (4, .int (nI k)), (3, .int q1), (2, .int b), (1, .int a), (0, .ref (o 0))] → W p l e (rmD 2) s m args below meth c H locs 0 0 (MQ below (QI g A (cmO (mZ r) b nf 1 a) (MW g o r)) args s 0 0 A) (F0 m 39 ls []) := by
      intro q1 ht2 ls H locs hP hD hS hl
      refine lv_iload hx hb dX6_coming_39 (lv_at hl 0 rfl) ?_
      refine lv_iconst (v := 4) hx hb dX6_coming_41 (by decide) ?_
      refine lv_icmp_ge (tgt := 119) hx hb dX6_coming_42 (by decide) (fun c_5 => ?_) (fun q9 => absurd (show (4 : Int32) ≤ (4 : Int32) from (by decide)) (show ¬ ((4 : Int32) ≤ (4 : Int32)) from q9))
      refine lv_iinc (v := (nI (k + 1))) (lv' := [(4, .int (nI (k + 1))), (5, .int 4), (3, .int q1), (2, .int b), (1, .int a), (0, .ref (o 0))]) hx hb dX6_coming_119 hl (k := 1) rfl (nI_1 _) (by decide) rfl (fun ls hl => ?_)
      refine lv_goto (tgt := 28) hx hb dX6_coming_122 (by decide) ?_
      exact ih (k + 1) q1 (by omega) ((cmO_s ht2).symm.trans ht) ls _ _ hP hD hS (lv_sub hl [0, 2, 3, 4, 5] rfl)
    have LI_3 : ∀ (q1 : Int32), cmI (mZ r) b (nI k) 1 29 3 q1 = cmI (mZ r) b (nI k) 4 8 0 q → ∀ (ls : Array Slot) (H : Heap) (locs : List Loc), va_P g.1 vwCl (MW g o r) H → va_D A (MW g o r) → va_S A s.heap H locs → lv_has ls 7 [(5, .int 3), (4, .int (nI k)), (3, .int q1), (2, .int b), (1, .int a), (0, .ref (o 0))] → W p l e (rmD 2) s m args below meth c H locs 0 0 (MQ below (QI g A (cmO (mZ r) b nf 1 a) (MW g o r)) args s 0 0 A) (F0 m 39 ls []) := by
      intro q1 ht2 ls H locs hP hD hS hl
      refine lv_iload hx hb dX6_coming_39 (lv_at hl 0 rfl) ?_
      refine lv_iconst (v := 4) hx hb dX6_coming_41 (by decide) ?_
      refine lv_icmp_ge (tgt := 119) hx hb dX6_coming_42 (by decide) (fun q9 => absurd q9 (show ¬ (4 : Int32) ≤ (3 : Int32) from (by decide))) (fun c_6 => ?_)
      refine lv_aload_n hx hb dX6_coming_45 rfl (lv_at hl 5 rfl) ?_
      refine lv_iload hx hb dX6_coming_46 (lv_at hl 0 rfl) ?_
      refine lv_iconst (v := 5) hx hb dX6_coming_48 (by decide) ?_
      refine x_goI (wn := MW g o r) (x_rV (As := [.int 3, .int 5]) X (c_X6_of l g o r 3 5 (by decide) (by decide)  _) yf_X6_of yi_X6_of wM_X6_56 ⟨Nat.le_of_ble_eq_true rfl, Nat.le_of_ble_eq_true rfl⟩ hP hD (p_all _) 0 rfl rfl hl rfl rfl (Nat.le_of_ble_eq_true rfl) dX6_coming_49 ⟨Nat.zero_le _, Nat.zero_le _⟩) hP hD hS hA (p_all _) (p_back _) (fun H locs hP hD hS => ?_)
      refine lv_iconst (v := 1) hx hb dX6_coming_52 (by decide) ?_
      refine lv_icmp_ne (tgt := 76) hx hb dX6_coming_53 (by decide) (fun (c_7 : ¬ ((mZ r) 34) = 1) => ?_) (fun (c_7 : ((mZ r) 34) = 1) => ?_)
      · refine lv_iconst (v := 0) hx hb dX6_coming_76 (by decide) ?_
        refine lv_istore (lv' := [(6, .int 0), (5, .int 3), (4, .int (nI k)), (3, .int q1), (2, .int b), (1, .int a), (0, .ref (o 0))]) hx hb dX6_coming_77 hl (by decide) rfl (fun ls hl => ?_)
        refine lv_iload hx hb dX6_coming_79 (lv_at hl 0 rfl) ?_
        refine lv_if_le (tgt := 113) hx hb dX6_coming_81 (by decide) (fun c_8 => ?_) (fun q9 => absurd (show (0 : Int32) ≤ 0 from (by decide)) (show ¬ ((0 : Int32) ≤ 0) from q9))
        refine lv_iinc (v := 4) (lv' := [(5, .int 4), (6, .int 0), (4, .int (nI k)), (3, .int q1), (2, .int b), (1, .int a), (0, .ref (o 0))]) hx hb dX6_coming_113 hl (k := 1) rfl rfl (by decide) rfl (fun ls hl => ?_)
        refine lv_goto (tgt := 39) hx hb dX6_coming_116 (by decide) ?_
        exact LI_4 q1 ((cmI_n (n := 0) (f := 29) (k := 3) c_7).symm.trans ht2) ls _ _ hP hD hS (lv_sub hl [0, 2, 3, 4, 5, 6] rfl)
      · refine lv_aload_n hx hb dX6_coming_56 rfl (lv_at hl 5 rfl) ?_
        refine lv_iload hx hb dX6_coming_57 (lv_at hl 0 rfl) ?_
        refine lv_iconst (v := 0) hx hb dX6_coming_59 (by decide) ?_
        refine x_goI (wn := MW g o r) (x_rV (As := [.int 3, .int 0]) X (c_X6_of l g o r 3 0 (by decide) (by decide)  _) yf_X6_of yi_X6_of wM_X6_56 ⟨Nat.le_of_ble_eq_true rfl, Nat.le_of_ble_eq_true rfl⟩ hP hD (p_all _) 0 rfl rfl hl rfl rfl (Nat.le_of_ble_eq_true rfl) dX6_coming_60 ⟨Nat.zero_le _, Nat.zero_le _⟩) hP hD hS hA (p_all _) (p_back _) (fun H locs hP hD hS => ?_)
        refine lv_iload hx hb dX6_coming_63 (lv_at hl 1 rfl) ?_
        refine lv_iadd hx hb dX6_coming_65 ?_
        refine lv_sipush (v := 720) hx hb dX6_coming_66 (by decide) ?_
        refine lv_irem hx hb dX6_coming_69 (by decide) ?_
        refine x_goI (wn := MW g o r) (x_rS (As := [.int (jrem (((mZ r) 29) + (nI k)) 720)]) X (c_X6_strikesAt l g (jrem (((mZ r) 29) + (nI k)) 720) _) yf_X6_strikesAt ys_X6_strikesAt wM_X6_73 ⟨Nat.le_of_ble_eq_true rfl, Nat.le_of_ble_eq_true rfl⟩ hP hD (p_none _) hl rfl rfl (Nat.le_of_ble_eq_true rfl) dX6_coming_70 ⟨Nat.zero_le _, Nat.zero_le _⟩) hP hD hS hA (p_none _) (p_noneB _) (fun H locs hP hD hS => ?_)
        refine lv_goto (tgt := 77) hx hb dX6_coming_73 (by decide) ?_
        refine lv_istore (lv' := [(6, .int (strM (jrem (((mZ r) 29) + (nI k)) 720))), (5, .int 3), (4, .int (nI k)), (3, .int q1), (2, .int b), (1, .int a), (0, .ref (o 0))]) hx hb dX6_coming_77 hl (by decide) rfl (fun ls hl => ?_)
        refine lv_iload hx hb dX6_coming_79 (lv_at hl 0 rfl) ?_
        refine lv_if_le (tgt := 113) hx hb dX6_coming_81 (by decide) (fun (c_9 : (strM (jrem (((mZ r) 29) + (nI k)) 720)) ≤ 0) => ?_) (fun (c_9 : ¬ (strM (jrem (((mZ r) 29) + (nI k)) 720)) ≤ 0) => ?_)
        · refine lv_iinc (v := 4) (lv' := [(5, .int 4), (6, .int (strM (jrem (((mZ r) 29) + (nI k)) 720))), (4, .int (nI k)), (3, .int q1), (2, .int b), (1, .int a), (0, .ref (o 0))]) hx hb dX6_coming_113 hl (k := 1) rfl rfl (by decide) rfl (fun ls hl => ?_)
          refine lv_goto (tgt := 39) hx hb dX6_coming_116 (by decide) ?_
          exact LI_4 q1 ((cmI_0 (n := 0) (f := 29) (k := 3) c_7 c_9).symm.trans ht2) ls _ _ hP hD hS (lv_sub hl [0, 2, 3, 4, 5, 6] rfl)
        · refine lv_iload_n hx hb dX6_coming_84 rfl (lv_at hl 3 rfl) ?_
          refine lv_if_ne (tgt := 110) hx hb dX6_coming_85 (by decide) (fun (c_10 : ¬ q1 = 0) => ?_) (fun (c_10 : q1 = 0) => ?_)
          · refine lv_iinc (v := (q1 + (-1))) (lv' := [(3, .int (q1 + (-1))), (6, .int (strM (jrem (((mZ r) 29) + (nI k)) 720))), (5, .int 3), (4, .int (nI k)), (2, .int b), (1, .int a), (0, .ref (o 0))]) hx hb dX6_coming_110 hl (k := 3) rfl rfl (by decide) rfl (fun ls hl => ?_)
            refine lv_iinc (v := 4) (lv' := [(5, .int 4), (3, .int (q1 + (-1))), (6, .int (strM (jrem (((mZ r) 29) + (nI k)) 720))), (4, .int (nI k)), (2, .int b), (1, .int a), (0, .ref (o 0))]) hx hb dX6_coming_113 hl (k := 2) rfl rfl (by decide) rfl (fun ls hl => ?_)
            refine lv_goto (tgt := 39) hx hb dX6_coming_116 (by decide) ?_
            exact LI_4 (q1 + -1) ((cmI_1 (n := 0) (f := 29) (k := 3) c_7 c_9 c_10).symm.trans ht2) ls _ _ hP hD hS (lv_sub hl [0, 3, 1, 4, 5, 6] rfl)
          · refine lv_iload_n hx hb dX6_coming_88 rfl (lv_at hl 4 rfl) ?_
            refine lv_if_ne (tgt := 97) hx hb dX6_coming_89 (by decide) (fun (c_11 : ¬ b = 0) => ?_) (fun (c_11 : b = 0) => ?_)
            · refine lv_iload_n hx hb dX6_coming_97 rfl (lv_at hl 4 rfl) ?_
              refine lv_iconst (v := 1) hx hb dX6_coming_98 (by decide) ?_
              refine lv_icmp_ne (tgt := 107) hx hb dX6_coming_99 (by decide) (fun (c_12 : ¬ b = 1) => ?_) (fun (c_12 : b = 1) => ?_)
              · refine lv_iload hx hb dX6_coming_107 (lv_at hl 0 rfl) ?_
                exact x_iret X hr hlocks hP hD hS (((cmO_r ((cmI_r2 (n := 0) (f := 29) (k := 3) c_7 c_9 c_10 c_11 c_12).symm.trans ht2)).symm.trans ht)) dX6_coming_109
              · refine lv_iload hx hb dX6_coming_102 (lv_at hl 2 rfl) ?_
                refine lv_goto (tgt := 109) hx hb dX6_coming_104 (by decide) ?_
                exact x_iret X hr hlocks hP hD hS (((cmO_r ((cmI_r1 (n := 0) (f := 29) (k := 3) c_7 c_9 c_10 c_11 c_12).symm.trans ht2)).symm.trans ht)) dX6_coming_109
            · refine lv_iload hx hb dX6_coming_92 (lv_at hl 1 rfl) ?_
              refine lv_goto (tgt := 109) hx hb dX6_coming_94 (by decide) ?_
              exact x_iret X hr hlocks hP hD hS (((cmO_r ((cmI_r0 (n := 0) (f := 29) (k := 3) c_7 c_9 c_10 c_11).symm.trans ht2)).symm.trans ht)) dX6_coming_109
    have LI_2 : ∀ (q1 : Int32), cmI (mZ r) b (nI k) 2 22 2 q1 = cmI (mZ r) b (nI k) 4 8 0 q → ∀ (ls : Array Slot) (H : Heap) (locs : List Loc), va_P g.1 vwCl (MW g o r) H → va_D A (MW g o r) → va_S A s.heap H locs → lv_has ls 7 [(5, .int 2), (4, .int (nI k)), (3, .int q1), (2, .int b), (1, .int a), (0, .ref (o 0))] → W p l e (rmD 2) s m args below meth c H locs 0 0 (MQ below (QI g A (cmO (mZ r) b nf 1 a) (MW g o r)) args s 0 0 A) (F0 m 39 ls []) := by
      intro q1 ht2 ls H locs hP hD hS hl
      refine lv_iload hx hb dX6_coming_39 (lv_at hl 0 rfl) ?_
      refine lv_iconst (v := 4) hx hb dX6_coming_41 (by decide) ?_
      refine lv_icmp_ge (tgt := 119) hx hb dX6_coming_42 (by decide) (fun q9 => absurd q9 (show ¬ (4 : Int32) ≤ (2 : Int32) from (by decide))) (fun c_13 => ?_)
      refine lv_aload_n hx hb dX6_coming_45 rfl (lv_at hl 5 rfl) ?_
      refine lv_iload hx hb dX6_coming_46 (lv_at hl 0 rfl) ?_
      refine lv_iconst (v := 5) hx hb dX6_coming_48 (by decide) ?_
      refine x_goI (wn := MW g o r) (x_rV (As := [.int 2, .int 5]) X (c_X6_of l g o r 2 5 (by decide) (by decide)  _) yf_X6_of yi_X6_of wM_X6_56 ⟨Nat.le_of_ble_eq_true rfl, Nat.le_of_ble_eq_true rfl⟩ hP hD (p_all _) 0 rfl rfl hl rfl rfl (Nat.le_of_ble_eq_true rfl) dX6_coming_49 ⟨Nat.zero_le _, Nat.zero_le _⟩) hP hD hS hA (p_all _) (p_back _) (fun H locs hP hD hS => ?_)
      refine lv_iconst (v := 1) hx hb dX6_coming_52 (by decide) ?_
      refine lv_icmp_ne (tgt := 76) hx hb dX6_coming_53 (by decide) (fun (c_14 : ¬ ((mZ r) 27) = 1) => ?_) (fun (c_14 : ((mZ r) 27) = 1) => ?_)
      · refine lv_iconst (v := 0) hx hb dX6_coming_76 (by decide) ?_
        refine lv_istore (lv' := [(6, .int 0), (5, .int 2), (4, .int (nI k)), (3, .int q1), (2, .int b), (1, .int a), (0, .ref (o 0))]) hx hb dX6_coming_77 hl (by decide) rfl (fun ls hl => ?_)
        refine lv_iload hx hb dX6_coming_79 (lv_at hl 0 rfl) ?_
        refine lv_if_le (tgt := 113) hx hb dX6_coming_81 (by decide) (fun c_15 => ?_) (fun q9 => absurd (show (0 : Int32) ≤ 0 from (by decide)) (show ¬ ((0 : Int32) ≤ 0) from q9))
        refine lv_iinc (v := 3) (lv' := [(5, .int 3), (6, .int 0), (4, .int (nI k)), (3, .int q1), (2, .int b), (1, .int a), (0, .ref (o 0))]) hx hb dX6_coming_113 hl (k := 1) rfl rfl (by decide) rfl (fun ls hl => ?_)
        refine lv_goto (tgt := 39) hx hb dX6_coming_116 (by decide) ?_
        exact LI_3 q1 ((cmI_n (n := 1) (f := 22) (k := 2) c_14).symm.trans ht2) ls _ _ hP hD hS (lv_sub hl [0, 2, 3, 4, 5, 6] rfl)
      · refine lv_aload_n hx hb dX6_coming_56 rfl (lv_at hl 5 rfl) ?_
        refine lv_iload hx hb dX6_coming_57 (lv_at hl 0 rfl) ?_
        refine lv_iconst (v := 0) hx hb dX6_coming_59 (by decide) ?_
        refine x_goI (wn := MW g o r) (x_rV (As := [.int 2, .int 0]) X (c_X6_of l g o r 2 0 (by decide) (by decide)  _) yf_X6_of yi_X6_of wM_X6_56 ⟨Nat.le_of_ble_eq_true rfl, Nat.le_of_ble_eq_true rfl⟩ hP hD (p_all _) 0 rfl rfl hl rfl rfl (Nat.le_of_ble_eq_true rfl) dX6_coming_60 ⟨Nat.zero_le _, Nat.zero_le _⟩) hP hD hS hA (p_all _) (p_back _) (fun H locs hP hD hS => ?_)
        refine lv_iload hx hb dX6_coming_63 (lv_at hl 1 rfl) ?_
        refine lv_iadd hx hb dX6_coming_65 ?_
        refine lv_sipush (v := 720) hx hb dX6_coming_66 (by decide) ?_
        refine lv_irem hx hb dX6_coming_69 (by decide) ?_
        refine x_goI (wn := MW g o r) (x_rS (As := [.int (jrem (((mZ r) 22) + (nI k)) 720)]) X (c_X6_strikesAt l g (jrem (((mZ r) 22) + (nI k)) 720) _) yf_X6_strikesAt ys_X6_strikesAt wM_X6_73 ⟨Nat.le_of_ble_eq_true rfl, Nat.le_of_ble_eq_true rfl⟩ hP hD (p_none _) hl rfl rfl (Nat.le_of_ble_eq_true rfl) dX6_coming_70 ⟨Nat.zero_le _, Nat.zero_le _⟩) hP hD hS hA (p_none _) (p_noneB _) (fun H locs hP hD hS => ?_)
        refine lv_goto (tgt := 77) hx hb dX6_coming_73 (by decide) ?_
        refine lv_istore (lv' := [(6, .int (strM (jrem (((mZ r) 22) + (nI k)) 720))), (5, .int 2), (4, .int (nI k)), (3, .int q1), (2, .int b), (1, .int a), (0, .ref (o 0))]) hx hb dX6_coming_77 hl (by decide) rfl (fun ls hl => ?_)
        refine lv_iload hx hb dX6_coming_79 (lv_at hl 0 rfl) ?_
        refine lv_if_le (tgt := 113) hx hb dX6_coming_81 (by decide) (fun (c_16 : (strM (jrem (((mZ r) 22) + (nI k)) 720)) ≤ 0) => ?_) (fun (c_16 : ¬ (strM (jrem (((mZ r) 22) + (nI k)) 720)) ≤ 0) => ?_)
        · refine lv_iinc (v := 3) (lv' := [(5, .int 3), (6, .int (strM (jrem (((mZ r) 22) + (nI k)) 720))), (4, .int (nI k)), (3, .int q1), (2, .int b), (1, .int a), (0, .ref (o 0))]) hx hb dX6_coming_113 hl (k := 1) rfl rfl (by decide) rfl (fun ls hl => ?_)
          refine lv_goto (tgt := 39) hx hb dX6_coming_116 (by decide) ?_
          exact LI_3 q1 ((cmI_0 (n := 1) (f := 22) (k := 2) c_14 c_16).symm.trans ht2) ls _ _ hP hD hS (lv_sub hl [0, 2, 3, 4, 5, 6] rfl)
        · refine lv_iload_n hx hb dX6_coming_84 rfl (lv_at hl 3 rfl) ?_
          refine lv_if_ne (tgt := 110) hx hb dX6_coming_85 (by decide) (fun (c_17 : ¬ q1 = 0) => ?_) (fun (c_17 : q1 = 0) => ?_)
          · refine lv_iinc (v := (q1 + (-1))) (lv' := [(3, .int (q1 + (-1))), (6, .int (strM (jrem (((mZ r) 22) + (nI k)) 720))), (5, .int 2), (4, .int (nI k)), (2, .int b), (1, .int a), (0, .ref (o 0))]) hx hb dX6_coming_110 hl (k := 3) rfl rfl (by decide) rfl (fun ls hl => ?_)
            refine lv_iinc (v := 3) (lv' := [(5, .int 3), (3, .int (q1 + (-1))), (6, .int (strM (jrem (((mZ r) 22) + (nI k)) 720))), (4, .int (nI k)), (2, .int b), (1, .int a), (0, .ref (o 0))]) hx hb dX6_coming_113 hl (k := 2) rfl rfl (by decide) rfl (fun ls hl => ?_)
            refine lv_goto (tgt := 39) hx hb dX6_coming_116 (by decide) ?_
            exact LI_3 (q1 + -1) ((cmI_1 (n := 1) (f := 22) (k := 2) c_14 c_16 c_17).symm.trans ht2) ls _ _ hP hD hS (lv_sub hl [0, 3, 1, 4, 5, 6] rfl)
          · refine lv_iload_n hx hb dX6_coming_88 rfl (lv_at hl 4 rfl) ?_
            refine lv_if_ne (tgt := 97) hx hb dX6_coming_89 (by decide) (fun (c_18 : ¬ b = 0) => ?_) (fun (c_18 : b = 0) => ?_)
            · refine lv_iload_n hx hb dX6_coming_97 rfl (lv_at hl 4 rfl) ?_
              refine lv_iconst (v := 1) hx hb dX6_coming_98 (by decide) ?_
              refine lv_icmp_ne (tgt := 107) hx hb dX6_coming_99 (by decide) (fun (c_19 : ¬ b = 1) => ?_) (fun (c_19 : b = 1) => ?_)
              · refine lv_iload hx hb dX6_coming_107 (lv_at hl 0 rfl) ?_
                exact x_iret X hr hlocks hP hD hS (((cmO_r ((cmI_r2 (n := 1) (f := 22) (k := 2) c_14 c_16 c_17 c_18 c_19).symm.trans ht2)).symm.trans ht)) dX6_coming_109
              · refine lv_iload hx hb dX6_coming_102 (lv_at hl 2 rfl) ?_
                refine lv_goto (tgt := 109) hx hb dX6_coming_104 (by decide) ?_
                exact x_iret X hr hlocks hP hD hS (((cmO_r ((cmI_r1 (n := 1) (f := 22) (k := 2) c_14 c_16 c_17 c_18 c_19).symm.trans ht2)).symm.trans ht)) dX6_coming_109
            · refine lv_iload hx hb dX6_coming_92 (lv_at hl 1 rfl) ?_
              refine lv_goto (tgt := 109) hx hb dX6_coming_94 (by decide) ?_
              exact x_iret X hr hlocks hP hD hS (((cmO_r ((cmI_r0 (n := 1) (f := 22) (k := 2) c_14 c_16 c_17 c_18).symm.trans ht2)).symm.trans ht)) dX6_coming_109
    have LI_1 : ∀ (q1 : Int32), cmI (mZ r) b (nI k) 3 15 1 q1 = cmI (mZ r) b (nI k) 4 8 0 q → ∀ (ls : Array Slot) (H : Heap) (locs : List Loc), va_P g.1 vwCl (MW g o r) H → va_D A (MW g o r) → va_S A s.heap H locs → lv_has ls 7 [(5, .int 1), (4, .int (nI k)), (3, .int q1), (2, .int b), (1, .int a), (0, .ref (o 0))] → W p l e (rmD 2) s m args below meth c H locs 0 0 (MQ below (QI g A (cmO (mZ r) b nf 1 a) (MW g o r)) args s 0 0 A) (F0 m 39 ls []) := by
      intro q1 ht2 ls H locs hP hD hS hl
      refine lv_iload hx hb dX6_coming_39 (lv_at hl 0 rfl) ?_
      refine lv_iconst (v := 4) hx hb dX6_coming_41 (by decide) ?_
      refine lv_icmp_ge (tgt := 119) hx hb dX6_coming_42 (by decide) (fun q9 => absurd q9 (show ¬ (4 : Int32) ≤ (1 : Int32) from (by decide))) (fun c_20 => ?_)
      refine lv_aload_n hx hb dX6_coming_45 rfl (lv_at hl 5 rfl) ?_
      refine lv_iload hx hb dX6_coming_46 (lv_at hl 0 rfl) ?_
      refine lv_iconst (v := 5) hx hb dX6_coming_48 (by decide) ?_
      refine x_goI (wn := MW g o r) (x_rV (As := [.int 1, .int 5]) X (c_X6_of l g o r 1 5 (by decide) (by decide)  _) yf_X6_of yi_X6_of wM_X6_56 ⟨Nat.le_of_ble_eq_true rfl, Nat.le_of_ble_eq_true rfl⟩ hP hD (p_all _) 0 rfl rfl hl rfl rfl (Nat.le_of_ble_eq_true rfl) dX6_coming_49 ⟨Nat.zero_le _, Nat.zero_le _⟩) hP hD hS hA (p_all _) (p_back _) (fun H locs hP hD hS => ?_)
      refine lv_iconst (v := 1) hx hb dX6_coming_52 (by decide) ?_
      refine lv_icmp_ne (tgt := 76) hx hb dX6_coming_53 (by decide) (fun (c_21 : ¬ ((mZ r) 20) = 1) => ?_) (fun (c_21 : ((mZ r) 20) = 1) => ?_)
      · refine lv_iconst (v := 0) hx hb dX6_coming_76 (by decide) ?_
        refine lv_istore (lv' := [(6, .int 0), (5, .int 1), (4, .int (nI k)), (3, .int q1), (2, .int b), (1, .int a), (0, .ref (o 0))]) hx hb dX6_coming_77 hl (by decide) rfl (fun ls hl => ?_)
        refine lv_iload hx hb dX6_coming_79 (lv_at hl 0 rfl) ?_
        refine lv_if_le (tgt := 113) hx hb dX6_coming_81 (by decide) (fun c_22 => ?_) (fun q9 => absurd (show (0 : Int32) ≤ 0 from (by decide)) (show ¬ ((0 : Int32) ≤ 0) from q9))
        refine lv_iinc (v := 2) (lv' := [(5, .int 2), (6, .int 0), (4, .int (nI k)), (3, .int q1), (2, .int b), (1, .int a), (0, .ref (o 0))]) hx hb dX6_coming_113 hl (k := 1) rfl rfl (by decide) rfl (fun ls hl => ?_)
        refine lv_goto (tgt := 39) hx hb dX6_coming_116 (by decide) ?_
        exact LI_2 q1 ((cmI_n (n := 2) (f := 15) (k := 1) c_21).symm.trans ht2) ls _ _ hP hD hS (lv_sub hl [0, 2, 3, 4, 5, 6] rfl)
      · refine lv_aload_n hx hb dX6_coming_56 rfl (lv_at hl 5 rfl) ?_
        refine lv_iload hx hb dX6_coming_57 (lv_at hl 0 rfl) ?_
        refine lv_iconst (v := 0) hx hb dX6_coming_59 (by decide) ?_
        refine x_goI (wn := MW g o r) (x_rV (As := [.int 1, .int 0]) X (c_X6_of l g o r 1 0 (by decide) (by decide)  _) yf_X6_of yi_X6_of wM_X6_56 ⟨Nat.le_of_ble_eq_true rfl, Nat.le_of_ble_eq_true rfl⟩ hP hD (p_all _) 0 rfl rfl hl rfl rfl (Nat.le_of_ble_eq_true rfl) dX6_coming_60 ⟨Nat.zero_le _, Nat.zero_le _⟩) hP hD hS hA (p_all _) (p_back _) (fun H locs hP hD hS => ?_)
        refine lv_iload hx hb dX6_coming_63 (lv_at hl 1 rfl) ?_
        refine lv_iadd hx hb dX6_coming_65 ?_
        refine lv_sipush (v := 720) hx hb dX6_coming_66 (by decide) ?_
        refine lv_irem hx hb dX6_coming_69 (by decide) ?_
        refine x_goI (wn := MW g o r) (x_rS (As := [.int (jrem (((mZ r) 15) + (nI k)) 720)]) X (c_X6_strikesAt l g (jrem (((mZ r) 15) + (nI k)) 720) _) yf_X6_strikesAt ys_X6_strikesAt wM_X6_73 ⟨Nat.le_of_ble_eq_true rfl, Nat.le_of_ble_eq_true rfl⟩ hP hD (p_none _) hl rfl rfl (Nat.le_of_ble_eq_true rfl) dX6_coming_70 ⟨Nat.zero_le _, Nat.zero_le _⟩) hP hD hS hA (p_none _) (p_noneB _) (fun H locs hP hD hS => ?_)
        refine lv_goto (tgt := 77) hx hb dX6_coming_73 (by decide) ?_
        refine lv_istore (lv' := [(6, .int (strM (jrem (((mZ r) 15) + (nI k)) 720))), (5, .int 1), (4, .int (nI k)), (3, .int q1), (2, .int b), (1, .int a), (0, .ref (o 0))]) hx hb dX6_coming_77 hl (by decide) rfl (fun ls hl => ?_)
        refine lv_iload hx hb dX6_coming_79 (lv_at hl 0 rfl) ?_
        refine lv_if_le (tgt := 113) hx hb dX6_coming_81 (by decide) (fun (c_23 : (strM (jrem (((mZ r) 15) + (nI k)) 720)) ≤ 0) => ?_) (fun (c_23 : ¬ (strM (jrem (((mZ r) 15) + (nI k)) 720)) ≤ 0) => ?_)
        · refine lv_iinc (v := 2) (lv' := [(5, .int 2), (6, .int (strM (jrem (((mZ r) 15) + (nI k)) 720))), (4, .int (nI k)), (3, .int q1), (2, .int b), (1, .int a), (0, .ref (o 0))]) hx hb dX6_coming_113 hl (k := 1) rfl rfl (by decide) rfl (fun ls hl => ?_)
          refine lv_goto (tgt := 39) hx hb dX6_coming_116 (by decide) ?_
          exact LI_2 q1 ((cmI_0 (n := 2) (f := 15) (k := 1) c_21 c_23).symm.trans ht2) ls _ _ hP hD hS (lv_sub hl [0, 2, 3, 4, 5, 6] rfl)
        · refine lv_iload_n hx hb dX6_coming_84 rfl (lv_at hl 3 rfl) ?_
          refine lv_if_ne (tgt := 110) hx hb dX6_coming_85 (by decide) (fun (c_24 : ¬ q1 = 0) => ?_) (fun (c_24 : q1 = 0) => ?_)
          · refine lv_iinc (v := (q1 + (-1))) (lv' := [(3, .int (q1 + (-1))), (6, .int (strM (jrem (((mZ r) 15) + (nI k)) 720))), (5, .int 1), (4, .int (nI k)), (2, .int b), (1, .int a), (0, .ref (o 0))]) hx hb dX6_coming_110 hl (k := 3) rfl rfl (by decide) rfl (fun ls hl => ?_)
            refine lv_iinc (v := 2) (lv' := [(5, .int 2), (3, .int (q1 + (-1))), (6, .int (strM (jrem (((mZ r) 15) + (nI k)) 720))), (4, .int (nI k)), (2, .int b), (1, .int a), (0, .ref (o 0))]) hx hb dX6_coming_113 hl (k := 2) rfl rfl (by decide) rfl (fun ls hl => ?_)
            refine lv_goto (tgt := 39) hx hb dX6_coming_116 (by decide) ?_
            exact LI_2 (q1 + -1) ((cmI_1 (n := 2) (f := 15) (k := 1) c_21 c_23 c_24).symm.trans ht2) ls _ _ hP hD hS (lv_sub hl [0, 3, 1, 4, 5, 6] rfl)
          · refine lv_iload_n hx hb dX6_coming_88 rfl (lv_at hl 4 rfl) ?_
            refine lv_if_ne (tgt := 97) hx hb dX6_coming_89 (by decide) (fun (c_25 : ¬ b = 0) => ?_) (fun (c_25 : b = 0) => ?_)
            · refine lv_iload_n hx hb dX6_coming_97 rfl (lv_at hl 4 rfl) ?_
              refine lv_iconst (v := 1) hx hb dX6_coming_98 (by decide) ?_
              refine lv_icmp_ne (tgt := 107) hx hb dX6_coming_99 (by decide) (fun (c_26 : ¬ b = 1) => ?_) (fun (c_26 : b = 1) => ?_)
              · refine lv_iload hx hb dX6_coming_107 (lv_at hl 0 rfl) ?_
                exact x_iret X hr hlocks hP hD hS (((cmO_r ((cmI_r2 (n := 2) (f := 15) (k := 1) c_21 c_23 c_24 c_25 c_26).symm.trans ht2)).symm.trans ht)) dX6_coming_109
              · refine lv_iload hx hb dX6_coming_102 (lv_at hl 2 rfl) ?_
                refine lv_goto (tgt := 109) hx hb dX6_coming_104 (by decide) ?_
                exact x_iret X hr hlocks hP hD hS (((cmO_r ((cmI_r1 (n := 2) (f := 15) (k := 1) c_21 c_23 c_24 c_25 c_26).symm.trans ht2)).symm.trans ht)) dX6_coming_109
            · refine lv_iload hx hb dX6_coming_92 (lv_at hl 1 rfl) ?_
              refine lv_goto (tgt := 109) hx hb dX6_coming_94 (by decide) ?_
              exact x_iret X hr hlocks hP hD hS (((cmO_r ((cmI_r0 (n := 2) (f := 15) (k := 1) c_21 c_23 c_24 c_25).symm.trans ht2)).symm.trans ht)) dX6_coming_109
    have LI_0 : ∀ (q1 : Int32), cmI (mZ r) b (nI k) 4 8 0 q1 = cmI (mZ r) b (nI k) 4 8 0 q → ∀ (ls : Array Slot) (H : Heap) (locs : List Loc), va_P g.1 vwCl (MW g o r) H → va_D A (MW g o r) → va_S A s.heap H locs → lv_has ls 7 [(5, .int 0), (4, .int (nI k)), (3, .int q1), (2, .int b), (1, .int a), (0, .ref (o 0))] → W p l e (rmD 2) s m args below meth c H locs 0 0 (MQ below (QI g A (cmO (mZ r) b nf 1 a) (MW g o r)) args s 0 0 A) (F0 m 39 ls []) := by
      intro q1 ht2 ls H locs hP hD hS hl
      refine lv_iload hx hb dX6_coming_39 (lv_at hl 0 rfl) ?_
      refine lv_iconst (v := 4) hx hb dX6_coming_41 (by decide) ?_
      refine lv_icmp_ge (tgt := 119) hx hb dX6_coming_42 (by decide) (fun q9 => absurd q9 (show ¬ (4 : Int32) ≤ (0 : Int32) from (by decide))) (fun c_27 => ?_)
      refine lv_aload_n hx hb dX6_coming_45 rfl (lv_at hl 5 rfl) ?_
      refine lv_iload hx hb dX6_coming_46 (lv_at hl 0 rfl) ?_
      refine lv_iconst (v := 5) hx hb dX6_coming_48 (by decide) ?_
      refine x_goI (wn := MW g o r) (x_rV (As := [.int 0, .int 5]) X (c_X6_of l g o r 0 5 (by decide) (by decide)  _) yf_X6_of yi_X6_of wM_X6_56 ⟨Nat.le_of_ble_eq_true rfl, Nat.le_of_ble_eq_true rfl⟩ hP hD (p_all _) 0 rfl rfl hl rfl rfl (Nat.le_of_ble_eq_true rfl) dX6_coming_49 ⟨Nat.zero_le _, Nat.zero_le _⟩) hP hD hS hA (p_all _) (p_back _) (fun H locs hP hD hS => ?_)
      refine lv_iconst (v := 1) hx hb dX6_coming_52 (by decide) ?_
      refine lv_icmp_ne (tgt := 76) hx hb dX6_coming_53 (by decide) (fun (c_28 : ¬ ((mZ r) 13) = 1) => ?_) (fun (c_28 : ((mZ r) 13) = 1) => ?_)
      · refine lv_iconst (v := 0) hx hb dX6_coming_76 (by decide) ?_
        refine lv_istore (lv' := [(6, .int 0), (5, .int 0), (4, .int (nI k)), (3, .int q1), (2, .int b), (1, .int a), (0, .ref (o 0))]) hx hb dX6_coming_77 hl (by decide) rfl (fun ls hl => ?_)
        refine lv_iload hx hb dX6_coming_79 (lv_at hl 0 rfl) ?_
        refine lv_if_le (tgt := 113) hx hb dX6_coming_81 (by decide) (fun c_29 => ?_) (fun q9 => absurd (show (0 : Int32) ≤ 0 from (by decide)) (show ¬ ((0 : Int32) ≤ 0) from q9))
        refine lv_iinc (v := 1) (lv' := [(5, .int 1), (6, .int 0), (4, .int (nI k)), (3, .int q1), (2, .int b), (1, .int a), (0, .ref (o 0))]) hx hb dX6_coming_113 hl (k := 1) rfl rfl (by decide) rfl (fun ls hl => ?_)
        refine lv_goto (tgt := 39) hx hb dX6_coming_116 (by decide) ?_
        exact LI_1 q1 ((cmI_n (n := 3) (f := 8) (k := 0) c_28).symm.trans ht2) ls _ _ hP hD hS (lv_sub hl [0, 2, 3, 4, 5, 6] rfl)
      · refine lv_aload_n hx hb dX6_coming_56 rfl (lv_at hl 5 rfl) ?_
        refine lv_iload hx hb dX6_coming_57 (lv_at hl 0 rfl) ?_
        refine lv_iconst (v := 0) hx hb dX6_coming_59 (by decide) ?_
        refine x_goI (wn := MW g o r) (x_rV (As := [.int 0, .int 0]) X (c_X6_of l g o r 0 0 (by decide) (by decide)  _) yf_X6_of yi_X6_of wM_X6_56 ⟨Nat.le_of_ble_eq_true rfl, Nat.le_of_ble_eq_true rfl⟩ hP hD (p_all _) 0 rfl rfl hl rfl rfl (Nat.le_of_ble_eq_true rfl) dX6_coming_60 ⟨Nat.zero_le _, Nat.zero_le _⟩) hP hD hS hA (p_all _) (p_back _) (fun H locs hP hD hS => ?_)
        refine lv_iload hx hb dX6_coming_63 (lv_at hl 1 rfl) ?_
        refine lv_iadd hx hb dX6_coming_65 ?_
        refine lv_sipush (v := 720) hx hb dX6_coming_66 (by decide) ?_
        refine lv_irem hx hb dX6_coming_69 (by decide) ?_
        refine x_goI (wn := MW g o r) (x_rS (As := [.int (jrem (((mZ r) 8) + (nI k)) 720)]) X (c_X6_strikesAt l g (jrem (((mZ r) 8) + (nI k)) 720) _) yf_X6_strikesAt ys_X6_strikesAt wM_X6_73 ⟨Nat.le_of_ble_eq_true rfl, Nat.le_of_ble_eq_true rfl⟩ hP hD (p_none _) hl rfl rfl (Nat.le_of_ble_eq_true rfl) dX6_coming_70 ⟨Nat.zero_le _, Nat.zero_le _⟩) hP hD hS hA (p_none _) (p_noneB _) (fun H locs hP hD hS => ?_)
        refine lv_goto (tgt := 77) hx hb dX6_coming_73 (by decide) ?_
        refine lv_istore (lv' := [(6, .int (strM (jrem (((mZ r) 8) + (nI k)) 720))), (5, .int 0), (4, .int (nI k)), (3, .int q1), (2, .int b), (1, .int a), (0, .ref (o 0))]) hx hb dX6_coming_77 hl (by decide) rfl (fun ls hl => ?_)
        refine lv_iload hx hb dX6_coming_79 (lv_at hl 0 rfl) ?_
        refine lv_if_le (tgt := 113) hx hb dX6_coming_81 (by decide) (fun (c_30 : (strM (jrem (((mZ r) 8) + (nI k)) 720)) ≤ 0) => ?_) (fun (c_30 : ¬ (strM (jrem (((mZ r) 8) + (nI k)) 720)) ≤ 0) => ?_)
        · refine lv_iinc (v := 1) (lv' := [(5, .int 1), (6, .int (strM (jrem (((mZ r) 8) + (nI k)) 720))), (4, .int (nI k)), (3, .int q1), (2, .int b), (1, .int a), (0, .ref (o 0))]) hx hb dX6_coming_113 hl (k := 1) rfl rfl (by decide) rfl (fun ls hl => ?_)
          refine lv_goto (tgt := 39) hx hb dX6_coming_116 (by decide) ?_
          exact LI_1 q1 ((cmI_0 (n := 3) (f := 8) (k := 0) c_28 c_30).symm.trans ht2) ls _ _ hP hD hS (lv_sub hl [0, 2, 3, 4, 5, 6] rfl)
        · refine lv_iload_n hx hb dX6_coming_84 rfl (lv_at hl 3 rfl) ?_
          refine lv_if_ne (tgt := 110) hx hb dX6_coming_85 (by decide) (fun (c_31 : ¬ q1 = 0) => ?_) (fun (c_31 : q1 = 0) => ?_)
          · refine lv_iinc (v := (q1 + (-1))) (lv' := [(3, .int (q1 + (-1))), (6, .int (strM (jrem (((mZ r) 8) + (nI k)) 720))), (5, .int 0), (4, .int (nI k)), (2, .int b), (1, .int a), (0, .ref (o 0))]) hx hb dX6_coming_110 hl (k := 3) rfl rfl (by decide) rfl (fun ls hl => ?_)
            refine lv_iinc (v := 1) (lv' := [(5, .int 1), (3, .int (q1 + (-1))), (6, .int (strM (jrem (((mZ r) 8) + (nI k)) 720))), (4, .int (nI k)), (2, .int b), (1, .int a), (0, .ref (o 0))]) hx hb dX6_coming_113 hl (k := 2) rfl rfl (by decide) rfl (fun ls hl => ?_)
            refine lv_goto (tgt := 39) hx hb dX6_coming_116 (by decide) ?_
            exact LI_1 (q1 + -1) ((cmI_1 (n := 3) (f := 8) (k := 0) c_28 c_30 c_31).symm.trans ht2) ls _ _ hP hD hS (lv_sub hl [0, 3, 1, 4, 5, 6] rfl)
          · refine lv_iload_n hx hb dX6_coming_88 rfl (lv_at hl 4 rfl) ?_
            refine lv_if_ne (tgt := 97) hx hb dX6_coming_89 (by decide) (fun (c_32 : ¬ b = 0) => ?_) (fun (c_32 : b = 0) => ?_)
            · refine lv_iload_n hx hb dX6_coming_97 rfl (lv_at hl 4 rfl) ?_
              refine lv_iconst (v := 1) hx hb dX6_coming_98 (by decide) ?_
              refine lv_icmp_ne (tgt := 107) hx hb dX6_coming_99 (by decide) (fun (c_33 : ¬ b = 1) => ?_) (fun (c_33 : b = 1) => ?_)
              · refine lv_iload hx hb dX6_coming_107 (lv_at hl 0 rfl) ?_
                exact x_iret X hr hlocks hP hD hS (((cmO_r ((cmI_r2 (n := 3) (f := 8) (k := 0) c_28 c_30 c_31 c_32 c_33).symm.trans ht2)).symm.trans ht)) dX6_coming_109
              · refine lv_iload hx hb dX6_coming_102 (lv_at hl 2 rfl) ?_
                refine lv_goto (tgt := 109) hx hb dX6_coming_104 (by decide) ?_
                exact x_iret X hr hlocks hP hD hS (((cmO_r ((cmI_r1 (n := 3) (f := 8) (k := 0) c_28 c_30 c_31 c_32 c_33).symm.trans ht2)).symm.trans ht)) dX6_coming_109
            · refine lv_iload hx hb dX6_coming_92 (lv_at hl 1 rfl) ?_
              refine lv_goto (tgt := 109) hx hb dX6_coming_94 (by decide) ?_
              exact x_iret X hr hlocks hP hD hS (((cmO_r ((cmI_r0 (n := 3) (f := 8) (k := 0) c_28 c_30 c_31 c_32).symm.trans ht2)).symm.trans ht)) dX6_coming_109
    exact LI_0 q rfl ls _ _ hP hD hS (lv_sub hl [0, 1, 2, 3, 4, 5] rfl)

theorem c_X6_coming (l : Launch) (g : wG) (o : Nat → Nat) (r : MS) (a b : Int32) (nf : Nat) (hnf : 1 + nf = 1441) : CtI l g 2 yX6_coming cX6_coming 7 (some .int) [.ref (o 0), .int a, .int b] (MW g o r) (mComing r a b nf) (MW g o r) := by
  by_cases ha : isw a 0 23 = 0
  · exact c_X6_coming_a l g o r a b nf ha
  · by_cases hq : isw b 0 2 = 0
    · exact c_X6_coming_b l g o r a b nf ha hq
    · have e : mComing r a b nf = cmO (mZ r) b nf 1 a := by simp only [mComing, if_neg ha, if_neg hq]
      rw [e]
      exact c_X6_coming_o l g o r a b nf hnf ha hq
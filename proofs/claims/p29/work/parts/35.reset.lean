/-- for how long a start s is past at the minute m -/
def sN (m s : Nat) : Nat := (m + 1440 - s) % 1440
theorem sN_lt (m s : Nat) : sN m s < 1440 := Nat.mod_lt _ (by decide)
theorem wt_v {m bk : Nat} (hm : m < 1440) (hb : bk < 1440) : jrem ((nI m + 1440) - nI bk) 1440 = nI ((m + 1440 - bk) % 1440) := by
  rw [show nI m + 1440 = nI (m + 1440) from nI_add m 1440, pk_sub (by omega)]
  exact za_r1440 (by omega)
theorem wt_eq {x : Int32} {m bk s : Nat} (hm : m < 1440) (hb : bk < 1440) (hs : s < 1440) (hx : x = nI s) : x = jrem ((nI m + 1440) - nI bk) 1440 ↔ sN m s = bk := by
  rw [wt_v hm hb, hx, nI_eq (by omega) (by omega)]
  unfold sN; omega
/-- w is the keeper on watch at the minute m: starts in the row k, cn keepers -/
def WK (cn : Nat) (k t : RI) (v : Int32) (w : Nat) : Prop := t 7 = nI cn ∧ cn ≤ 6 ∧ w < cn ∧ ∃ (m : Nat) (R : Nat → Nat), m < 1440 ∧ v = nI m ∧ (∀ j, j < cn → R j < 1440 ∧ k (2 * j) = nI (R j)) ∧ (∀ j, j < cn → j ≠ w → sN m (R w) < sN m (R j))
set_option maxHeartbeats 4000000 in
set_option maxRecDepth 100000 in
theorem c_L_watch1 (l : Launch) (g : wG) (bk bt cn w : Nat) (k t : Nat → Int32) (m9 : Nat) (R : Nat → Nat) (h7 : t 7 = nI cn) (hc6 : cn ≤ 6) (hw9 : w < cn) (hm9 : m9 < 1440) (hR : ∀ j, j < cn → R j < 1440 ∧ k (2 * j) = nI (R j)) (hl9 : ∀ j, j < cn → j ≠ w → sN m9 (R w) < sN m9 (R j)) : CtI l g 0 yL_watch cL_watch 5 (some .int) [.ref bk, .ref bt, .int (nI m9)] ([(bk, .inl (g.2 0, 12, .inl k)), (bt, .inl (g.2 0, 8, .inl t))]) (nI w) ([(bk, .inl (g.2 0, 12, .inl k)), (bt, .inl (g.2 0, 8, .inl t))]) := by
  intro sz
  refine x_enter (Qc := fun A => QI g A (nI w) ([(bk, .inl (g.2 0, 12, .inl k)), (bt, .inl (g.2 0, 8, .inl t))])) (by decide) (Nat.le_of_ble_eq_true rfl) ?_
  intro p e s m args below meth c X hr hlocks A hA hP hD hS ls hl
  obtain ⟨⟨hx, hb, hml, hown, hts⟩, hK, hN⟩ := id X
  have hl : lv_has ls 5 [(0, .ref bk), (1, .ref bt), (2, .int (nI m9))] := hl
  refine lv_iconst (v := 0) hx hb dL_watch_0 (by decide) ?_
  refine lv_istore_n (lv' := [(3, .int 0), (0, .ref bk), (1, .ref bt), (2, .int (nI m9))]) hx hb dL_watch_1 rfl hl (by decide) rfl (fun ls hl => ?_)
  suffices LP2 : ∀ (n : Nat) (bk9 : Nat), bk9 + n = sN m9 (R w) → ∀ (ls : Array Slot) (H : Heap) (locs : List Loc), va_P g.1 vwCl ([(bk, .inl (g.2 0, 12, .inl k)), (bt, .inl (g.2 0, 8, .inl t))]) H → va_D A ([(bk, .inl (g.2 0, 12, .inl k)), (bt, .inl (g.2 0, 8, .inl t))]) → va_S A s.heap H locs → lv_has ls 5 [(3, .int (nI bk9)), (0, .ref bk), (1, .ref bt), (2, .int (nI m9))] → W p l e (rmD 0) s m args below meth c H locs 0 0 (MQ below (QI g A (nI w) ([(bk, .inl (g.2 0, 12, .inl k)), (bt, .inl (g.2 0, 8, .inl t))])) args s 0 0 A) (F0 m 2 ls []) from LP2 (sN m9 (R w)) 0 (Nat.zero_add _) ls _ _ hP hD hS (lv_sub hl [0, 1, 2, 3] rfl)
  intro n
  induction n with
  | zero =>
    intro bk9 hk ls H locs hP hD hS hl
    have hlt := sN_lt m9 (R w)
    refine lv_iload_n hx hb dL_watch_2 rfl (lv_at hl 0 rfl) ?_
    refine lv_sipush (v := 1440) hx hb dL_watch_3 (by decide) ?_
    refine lv_icmp_ge (tgt := 56) hx hb dL_watch_6 (by decide) (fun q9 => absurd q9 (show ¬ 1440 ≤ (nI bk9) from (nI_ge (b := 1440) (by omega) (by omega)))) (fun c_1 => ?_)
    refine lv_iconst (v := 0) hx hb dL_watch_9 (by decide) ?_
    refine lv_istore (lv' := [(4, .int 0), (3, .int (nI bk9)), (0, .ref bk), (1, .ref bt), (2, .int (nI m9))]) hx hb dL_watch_10 hl (by decide) rfl (fun ls hl => ?_)
    suffices LP12 : ∀ (n : Nat) (j : Nat), j + n = w → ∀ (ls : Array Slot) (H : Heap) (locs : List Loc), va_P g.1 vwCl ([(bk, .inl (g.2 0, 12, .inl k)), (bt, .inl (g.2 0, 8, .inl t))]) H → va_D A ([(bk, .inl (g.2 0, 12, .inl k)), (bt, .inl (g.2 0, 8, .inl t))]) → va_S A s.heap H locs → lv_has ls 5 [(4, .int (nI j)), (3, .int (nI bk9)), (0, .ref bk), (1, .ref bt), (2, .int (nI m9))] → W p l e (rmD 0) s m args below meth c H locs 0 0 (MQ below (QI g A (nI w) ([(bk, .inl (g.2 0, 12, .inl k)), (bt, .inl (g.2 0, 8, .inl t))])) args s 0 0 A) (F0 m 12 ls []) from LP12 w 0 (Nat.zero_add _) ls _ _ hP hD hS (lv_sub hl [0, 1, 2, 3, 4] rfl)
    intro n
    induction n with
    | zero =>
      intro j hj ls H locs hP hD hS hl
      have hj2 : j = w := by omega
      refine lv_iload hx hb dL_watch_12 (lv_at hl 0 rfl) ?_
      refine lv_aload_n hx hb dL_watch_14 rfl (lv_at hl 3 rfl) ?_
      refine lv_bipush (v := 7) hx hb dL_watch_15 (by decide) ?_
      refine x_iald (v := (t 7)) X 1 7 hP rfl rfl (by decide) (Nat.le_of_ble_eq_true rfl) rfl dL_watch_17 ?_
      refine lv_icmp_ge (tgt := 50) hx hb dL_watch_18 (by decide) (fun q9 => absurd q9 (show ¬ (t 7) ≤ (nI j) from (by rw [h7]; exact nI_ge (by omega) (by omega)))) (fun c_2 => ?_)
      refine lv_aload_n hx hb dL_watch_21 rfl (lv_at hl 2 rfl) ?_
      refine lv_iconst (v := 2) hx hb dL_watch_22 (by decide) ?_
      refine lv_iload hx hb dL_watch_23 (lv_at hl 0 rfl) ?_
      refine lv_imul hx hb dL_watch_25 ?_
      refine x_iald (v := (k (2 * j))) X 0 (2 * j) hP rfl (z_mul rfl rfl) (by omega) (Nat.le_of_ble_eq_true rfl) rfl dL_watch_26 ?_
      refine lv_iload_n hx hb dL_watch_27 rfl (lv_at hl 4 rfl) ?_
      refine lv_sipush (v := 1440) hx hb dL_watch_28 (by decide) ?_
      refine lv_iadd hx hb dL_watch_31 ?_
      refine lv_iload_n hx hb dL_watch_32 rfl (lv_at hl 1 rfl) ?_
      refine lv_isub hx hb dL_watch_33 ?_
      refine lv_sipush (v := 1440) hx hb dL_watch_34 (by decide) ?_
      refine lv_irem hx hb dL_watch_37 (by decide) ?_
      refine lv_icmp_ne (tgt := 44) hx hb dL_watch_38 (by decide) (fun q9 => absurd (show (k (2 * j)) = (jrem (((nI m9) + 1440) - (nI bk9)) 1440) from ((wt_eq hm9 (by omega) (hR j (by omega)).1 (hR j (by omega)).2).mpr (by rw [hj2]; omega))) q9) (fun c_3 => ?_)
      refine lv_iload hx hb dL_watch_41 (lv_at hl 0 rfl) ?_
      exact x_iret X hr hlocks hP hD hS (by rw [hj2]) dL_watch_43
    | succ n ih =>
      intro j hj ls H locs hP hD hS hl
      refine lv_iload hx hb dL_watch_12 (lv_at hl 0 rfl) ?_
      refine lv_aload_n hx hb dL_watch_14 rfl (lv_at hl 3 rfl) ?_
      refine lv_bipush (v := 7) hx hb dL_watch_15 (by decide) ?_
      refine x_iald (v := (t 7)) X 1 7 hP rfl rfl (by decide) (Nat.le_of_ble_eq_true rfl) rfl dL_watch_17 ?_
      refine lv_icmp_ge (tgt := 50) hx hb dL_watch_18 (by decide) (fun q9 => absurd q9 (show ¬ (t 7) ≤ (nI j) from (by rw [h7]; exact nI_ge (by omega) (by omega)))) (fun c_4 => ?_)
      refine lv_aload_n hx hb dL_watch_21 rfl (lv_at hl 2 rfl) ?_
      refine lv_iconst (v := 2) hx hb dL_watch_22 (by decide) ?_
      refine lv_iload hx hb dL_watch_23 (lv_at hl 0 rfl) ?_
      refine lv_imul hx hb dL_watch_25 ?_
      refine x_iald (v := (k (2 * j))) X 0 (2 * j) hP rfl (z_mul rfl rfl) (by omega) (Nat.le_of_ble_eq_true rfl) rfl dL_watch_26 ?_
      refine lv_iload_n hx hb dL_watch_27 rfl (lv_at hl 4 rfl) ?_
      refine lv_sipush (v := 1440) hx hb dL_watch_28 (by decide) ?_
      refine lv_iadd hx hb dL_watch_31 ?_
      refine lv_iload_n hx hb dL_watch_32 rfl (lv_at hl 1 rfl) ?_
      refine lv_isub hx hb dL_watch_33 ?_
      refine lv_sipush (v := 1440) hx hb dL_watch_34 (by decide) ?_
      refine lv_irem hx hb dL_watch_37 (by decide) ?_
      refine lv_icmp_ne (tgt := 44) hx hb dL_watch_38 (by decide) (fun c_5 => ?_) (fun q9 => absurd (show (k (2 * j)) = (jrem (((nI m9) + 1440) - (nI bk9)) 1440) from q9) (show ¬ (k (2 * j)) = (jrem (((nI m9) + 1440) - (nI bk9)) 1440) from (fun q8 => absurd ((wt_eq hm9 (by omega) (hR j (by omega)).1 (hR j (by omega)).2).mp q8) (by have q7 := hl9 j (by omega) (by omega); omega))))
      refine lv_iinc (v := (nI (j + 1))) (lv' := [(4, .int (nI (j + 1))), (3, .int (nI bk9)), (0, .ref bk), (1, .ref bt), (2, .int (nI m9))]) hx hb dL_watch_44 hl (k := 0) rfl (nI_add _ 1) (by decide) rfl (fun ls hl => ?_)
      refine lv_goto (tgt := 12) hx hb dL_watch_47 (by decide) ?_
      exact ih (j + 1) (by omega) ls _ _ hP hD hS (lv_sub hl [0, 1, 2, 3, 4] rfl)
  | succ n ih =>
    intro bk9 hk ls H locs hP hD hS hl
    have hlt := sN_lt m9 (R w)
    have hne : ∀ j, j < cn → ¬ sN m9 (R j) = bk9 := by
      intro j hj q8
      by_cases e : j = w
      · rw [e] at q8; omega
      · have q7 := hl9 j hj e; omega
    refine lv_iload_n hx hb dL_watch_2 rfl (lv_at hl 0 rfl) ?_
    refine lv_sipush (v := 1440) hx hb dL_watch_3 (by decide) ?_
    refine lv_icmp_ge (tgt := 56) hx hb dL_watch_6 (by decide) (fun q9 => absurd q9 (show ¬ 1440 ≤ (nI bk9) from (nI_ge (b := 1440) (by omega) (by omega)))) (fun c_6 => ?_)
    refine lv_iconst (v := 0) hx hb dL_watch_9 (by decide) ?_
    refine lv_istore (lv' := [(4, .int 0), (3, .int (nI bk9)), (0, .ref bk), (1, .ref bt), (2, .int (nI m9))]) hx hb dL_watch_10 hl (by decide) rfl (fun ls hl => ?_)
    suffices LP12 : ∀ (n : Nat) (j : Nat), j + n = cn → ∀ (ls : Array Slot) (H : Heap) (locs : List Loc), va_P g.1 vwCl ([(bk, .inl (g.2 0, 12, .inl k)), (bt, .inl (g.2 0, 8, .inl t))]) H → va_D A ([(bk, .inl (g.2 0, 12, .inl k)), (bt, .inl (g.2 0, 8, .inl t))]) → va_S A s.heap H locs → lv_has ls 5 [(4, .int (nI j)), (3, .int (nI bk9)), (0, .ref bk), (1, .ref bt), (2, .int (nI m9))] → W p l e (rmD 0) s m args below meth c H locs 0 0 (MQ below (QI g A (nI w) ([(bk, .inl (g.2 0, 12, .inl k)), (bt, .inl (g.2 0, 8, .inl t))])) args s 0 0 A) (F0 m 12 ls []) from LP12 cn 0 (Nat.zero_add _) ls _ _ hP hD hS (lv_sub hl [0, 1, 2, 3, 4] rfl)
    intro n
    induction n with
    | zero =>
      intro j hj ls H locs hP hD hS hl
      refine lv_iload hx hb dL_watch_12 (lv_at hl 0 rfl) ?_
      refine lv_aload_n hx hb dL_watch_14 rfl (lv_at hl 3 rfl) ?_
      refine lv_bipush (v := 7) hx hb dL_watch_15 (by decide) ?_
      refine x_iald (v := (t 7)) X 1 7 hP rfl rfl (by decide) (Nat.le_of_ble_eq_true rfl) rfl dL_watch_17 ?_
      refine lv_icmp_ge (tgt := 50) hx hb dL_watch_18 (by decide) (fun c_7 => ?_) (fun q9 => absurd (show (t 7) ≤ (nI j) from (by rw [h7]; exact nI_le (by omega) (by omega))) (show ¬ ((t 7) ≤ (nI j)) from q9))
      refine lv_iinc (v := (nI (bk9 + 1))) (lv' := [(3, .int (nI (bk9 + 1))), (4, .int (nI j)), (0, .ref bk), (1, .ref bt), (2, .int (nI m9))]) hx hb dL_watch_50 hl (k := 1) rfl (nI_add _ 1) (by decide) rfl (fun ls hl => ?_)
      refine lv_goto (tgt := 2) hx hb dL_watch_53 (by decide) ?_
      exact ih (bk9 + 1) (by omega) ls _ _ hP hD hS (lv_sub hl [0, 2, 3, 4] rfl)
    | succ n ih =>
      intro j hj ls H locs hP hD hS hl
      refine lv_iload hx hb dL_watch_12 (lv_at hl 0 rfl) ?_
      refine lv_aload_n hx hb dL_watch_14 rfl (lv_at hl 3 rfl) ?_
      refine lv_bipush (v := 7) hx hb dL_watch_15 (by decide) ?_
      refine x_iald (v := (t 7)) X 1 7 hP rfl rfl (by decide) (Nat.le_of_ble_eq_true rfl) rfl dL_watch_17 ?_
      refine lv_icmp_ge (tgt := 50) hx hb dL_watch_18 (by decide) (fun q9 => absurd q9 (show ¬ (t 7) ≤ (nI j) from (by rw [h7]; exact nI_ge (by omega) (by omega)))) (fun c_8 => ?_)
      refine lv_aload_n hx hb dL_watch_21 rfl (lv_at hl 2 rfl) ?_
      refine lv_iconst (v := 2) hx hb dL_watch_22 (by decide) ?_
      refine lv_iload hx hb dL_watch_23 (lv_at hl 0 rfl) ?_
      refine lv_imul hx hb dL_watch_25 ?_
      refine x_iald (v := (k (2 * j))) X 0 (2 * j) hP rfl (z_mul rfl rfl) (by omega) (Nat.le_of_ble_eq_true rfl) rfl dL_watch_26 ?_
      refine lv_iload_n hx hb dL_watch_27 rfl (lv_at hl 4 rfl) ?_
      refine lv_sipush (v := 1440) hx hb dL_watch_28 (by decide) ?_
      refine lv_iadd hx hb dL_watch_31 ?_
      refine lv_iload_n hx hb dL_watch_32 rfl (lv_at hl 1 rfl) ?_
      refine lv_isub hx hb dL_watch_33 ?_
      refine lv_sipush (v := 1440) hx hb dL_watch_34 (by decide) ?_
      refine lv_irem hx hb dL_watch_37 (by decide) ?_
      refine lv_icmp_ne (tgt := 44) hx hb dL_watch_38 (by decide) (fun c_9 => ?_) (fun q9 => absurd (show (k (2 * j)) = (jrem (((nI m9) + 1440) - (nI bk9)) 1440) from q9) (show ¬ (k (2 * j)) = (jrem (((nI m9) + 1440) - (nI bk9)) 1440) from (fun q8 => hne j (by omega) ((wt_eq hm9 (by omega) (hR j (by omega)).1 (hR j (by omega)).2).mp q8))))
      refine lv_iinc (v := (nI (j + 1))) (lv' := [(4, .int (nI (j + 1))), (3, .int (nI bk9)), (0, .ref bk), (1, .ref bt), (2, .int (nI m9))]) hx hb dL_watch_44 hl (k := 0) rfl (nI_add _ 1) (by decide) rfl (fun ls hl => ?_)
      refine lv_goto (tgt := 12) hx hb dL_watch_47 (by decide) ?_
      exact ih (j + 1) (by omega) ls _ _ hP hD hS (lv_sub hl [0, 1, 2, 3, 4] rfl)

theorem c_L_watch (l : Launch) (g : wG) (bk bt cn w : Nat) (k t : Nat → Int32) (v : Int32) (h : WK cn k t v w) : CtI l g 0 yL_watch cL_watch 5 (some .int) [.ref bk, .ref bt, .int v] ([(bk, .inl (g.2 0, 12, .inl k)), (bt, .inl (g.2 0, 8, .inl t))]) (nI w) ([(bk, .inl (g.2 0, 12, .inl k)), (bt, .inl (g.2 0, 8, .inl t))]) := by
  obtain ⟨h7, hc6, hw9, m9, R, hm9, rfl, hR, hl9⟩ := h
  exact c_L_watch1 l g bk bt cn w k t m9 R h7 hc6 hw9 hm9 hR hl9
set_option maxHeartbeats 4000000 in
set_option maxRecDepth 100000 in
theorem c_L_watch0 (l : Launch) (g : wG) (bk bt : Nat) (k t : Nat → Int32) (v : Int32) (h7 : t 7 = 0) (nf : Nat) (hnf : nf = 1440) : CtI l g 0 yL_watch cL_watch 5 (some .int) [.ref bk, .ref bt, .int v] ([(bk, .inl (g.2 0, 12, .inl k)), (bt, .inl (g.2 0, 8, .inl t))]) (-1) ([(bk, .inl (g.2 0, 12, .inl k)), (bt, .inl (g.2 0, 8, .inl t))]) := by
  intro sz
  refine x_enter (Qc := fun A => QI g A (-1) ([(bk, .inl (g.2 0, 12, .inl k)), (bt, .inl (g.2 0, 8, .inl t))])) (by decide) (Nat.le_of_ble_eq_true rfl) ?_
  intro p e s m args below meth c X hr hlocks A hA hP hD hS ls hl
  obtain ⟨⟨hx, hb, hml, hown, hts⟩, hK, hN⟩ := id X
  have hl : lv_has ls 5 [(0, .ref bk), (1, .ref bt), (2, .int v)] := hl
  refine lv_iconst (v := 0) hx hb dL_watch_0 (by decide) ?_
  refine lv_istore_n (lv' := [(3, .int 0), (0, .ref bk), (1, .ref bt), (2, .int v)]) hx hb dL_watch_1 rfl hl (by decide) rfl (fun ls hl => ?_)
  suffices LP2 : ∀ (n : Nat) (bk9 : Nat), bk9 + n = 1440 → ∀ (ls : Array Slot) (H : Heap) (locs : List Loc), va_P g.1 vwCl ([(bk, .inl (g.2 0, 12, .inl k)), (bt, .inl (g.2 0, 8, .inl t))]) H → va_D A ([(bk, .inl (g.2 0, 12, .inl k)), (bt, .inl (g.2 0, 8, .inl t))]) → va_S A s.heap H locs → lv_has ls 5 [(3, .int (nI bk9)), (0, .ref bk), (1, .ref bt), (2, .int v)] → W p l e (rmD 0) s m args below meth c H locs 0 0 (MQ below (QI g A (-1) ([(bk, .inl (g.2 0, 12, .inl k)), (bt, .inl (g.2 0, 8, .inl t))])) args s 0 0 A) (F0 m 2 ls []) from LP2 nf 0 (by omega) ls _ _ hP hD hS (lv_sub hl [0, 1, 2, 3] rfl)
  intro n
  induction n with
  | zero =>
    intro bk9 hk ls H locs hP hD hS hl
    refine lv_iload_n hx hb dL_watch_2 rfl (lv_at hl 0 rfl) ?_
    refine lv_sipush (v := 1440) hx hb dL_watch_3 (by decide) ?_
    refine lv_icmp_ge (tgt := 56) hx hb dL_watch_6 (by decide) (fun c_1 => ?_) (fun q9 => absurd (show 1440 ≤ (nI bk9) from (nI_le (a := 1440) (by omega) (by omega))) (show ¬ (1440 ≤ (nI bk9)) from q9))
    refine lv_iconst (v := (-1)) hx hb dL_watch_56 (by decide) ?_
    exact x_iret X hr hlocks hP hD hS rfl dL_watch_57
  | succ n ih =>
    intro bk9 hk ls H locs hP hD hS hl
    refine lv_iload_n hx hb dL_watch_2 rfl (lv_at hl 0 rfl) ?_
    refine lv_sipush (v := 1440) hx hb dL_watch_3 (by decide) ?_
    refine lv_icmp_ge (tgt := 56) hx hb dL_watch_6 (by decide) (fun q9 => absurd q9 (show ¬ 1440 ≤ (nI bk9) from (nI_ge (b := 1440) (by omega) (by omega)))) (fun c_2 => ?_)
    refine lv_iconst (v := 0) hx hb dL_watch_9 (by decide) ?_
    refine lv_istore (lv' := [(4, .int 0), (3, .int (nI bk9)), (0, .ref bk), (1, .ref bt), (2, .int v)]) hx hb dL_watch_10 hl (by decide) rfl (fun ls hl => ?_)
    refine lv_iload hx hb dL_watch_12 (lv_at hl 0 rfl) ?_
    refine lv_aload_n hx hb dL_watch_14 rfl (lv_at hl 3 rfl) ?_
    refine lv_bipush (v := 7) hx hb dL_watch_15 (by decide) ?_
    refine x_iald (v := (t 7)) X 1 7 hP rfl rfl (by decide) (Nat.le_of_ble_eq_true rfl) rfl dL_watch_17 ?_
    refine lv_icmp_ge (tgt := 50) hx hb dL_watch_18 (by decide) (fun c_3 => ?_) (fun q9 => absurd (show (t 7) ≤ (0 : Int32) from (by rw [h7]; exact Int32.le_refl _)) (show ¬ ((t 7) ≤ (0 : Int32)) from q9))
    refine lv_iinc (v := (nI (bk9 + 1))) (lv' := [(3, .int (nI (bk9 + 1))), (4, .int 0), (0, .ref bk), (1, .ref bt), (2, .int v)]) hx hb dL_watch_50 hl (k := 1) rfl (nI_add _ 1) (by decide) rfl (fun ls hl => ?_)
    refine lv_goto (tgt := 2) hx hb dL_watch_53 (by decide) ?_
    exact ih (bk9 + 1) (by omega) ls _ _ hP hD hS (lv_sub hl [0, 2, 3, 4] rfl)

def ktL (k t : RI) (w : Nat) : Int32 := jrem ((t 0 + k (2 * w + 1)) + 720) 720
set_option maxHeartbeats 4000000 in
set_option maxRecDepth 100000 in
theorem c_L_keeperTime (l : Launch) (g : wG) (bk bt cn w : Nat) (k t : Nat → Int32) (h : WK cn k t (jrem (t 0) 1440) w) : CtI l g 1 yL_keeperTime cL_keeperTime 2 (some .int) [.ref bk, .ref bt] ([(bk, .inl (g.2 0, 12, .inl k)), (bt, .inl (g.2 0, 8, .inl t))]) (ktL k t w) ([(bk, .inl (g.2 0, 12, .inl k)), (bt, .inl (g.2 0, 8, .inl t))]) := by
  intro sz
  refine x_enter (Qc := fun A => QI g A (ktL k t w) ([(bk, .inl (g.2 0, 12, .inl k)), (bt, .inl (g.2 0, 8, .inl t))])) (by decide) (Nat.le_of_ble_eq_true rfl) ?_
  intro p e s m args below meth c X hr hlocks A hA hP hD hS ls hl
  obtain ⟨⟨hx, hb, hml, hown, hts⟩, hK, hN⟩ := id X
  have hl : lv_has ls 2 [(0, .ref bk), (1, .ref bt)] := hl
  have hw6 : w < 6 := by have h1 := h.2.1; have h2 := h.2.2.1; omega
  refine lv_aload_n hx hb dL_keeperTime_0 rfl (lv_at hl 1 rfl) ?_
  refine lv_iconst (v := 0) hx hb dL_keeperTime_1 (by decide) ?_
  refine x_iald (v := (t 0)) X 1 0 hP rfl rfl (by decide) (Nat.le_of_ble_eq_true rfl) rfl dL_keeperTime_2 ?_
  refine lv_aload_n hx hb dL_keeperTime_3 rfl (lv_at hl 0 rfl) ?_
  refine lv_iconst (v := 2) hx hb dL_keeperTime_4 (by decide) ?_
  refine lv_aload_n hx hb dL_keeperTime_5 rfl (lv_at hl 0 rfl) ?_
  refine lv_aload_n hx hb dL_keeperTime_6 rfl (lv_at hl 1 rfl) ?_
  refine lv_aload_n hx hb dL_keeperTime_7 rfl (lv_at hl 1 rfl) ?_
  refine lv_iconst (v := 0) hx hb dL_keeperTime_8 (by decide) ?_
  refine x_iald (v := (t 0)) X 1 0 hP rfl rfl (by decide) (Nat.le_of_ble_eq_true rfl) rfl dL_keeperTime_9 ?_
  refine lv_sipush (v := 1440) hx hb dL_keeperTime_10 (by decide) ?_
  refine lv_irem hx hb dL_keeperTime_13 (by decide) ?_
  refine x_goI (wn := [(bk, .inl (g.2 0, 12, .inl k)), (bt, .inl (g.2 0, 8, .inl t))]) (x_rS (As := [.ref bk, .ref bt, .int (jrem (t 0) 1440)]) X (c_L_watch l g bk bt cn w k t (jrem (t 0) 1440) h _) yf_L_watch ys_L_watch wM_L_10 ⟨Nat.le_of_ble_eq_true rfl, Nat.le_of_ble_eq_true rfl⟩ hP hD (p_all _) hl rfl rfl (Nat.le_of_ble_eq_true rfl) dL_keeperTime_14 ⟨Nat.zero_le _, Nat.zero_le _⟩) hP hD hS hA (p_all _) (p_back _) (fun H locs hP hD hS => ?_)
  refine lv_imul hx hb dL_keeperTime_17 ?_
  refine lv_iconst (v := 1) hx hb dL_keeperTime_18 (by decide) ?_
  refine lv_iadd hx hb dL_keeperTime_19 ?_
  refine x_iald (v := (k ((2 * w) + 1))) X 0 ((2 * w) + 1) hP rfl (z_add (z_mul rfl rfl) rfl) (by omega) (Nat.le_of_ble_eq_true rfl) rfl dL_keeperTime_20 ?_
  refine lv_iadd hx hb dL_keeperTime_21 ?_
  refine lv_sipush (v := 720) hx hb dL_keeperTime_22 (by decide) ?_
  refine lv_iadd hx hb dL_keeperTime_25 ?_
  refine lv_sipush (v := 720) hx hb dL_keeperTime_26 (by decide) ?_
  refine lv_irem hx hb dL_keeperTime_29 (by decide) ?_
  exact x_iret X hr hlocks hP hD hS rfl dL_keeperTime_30

theorem up_s (z : RI) (k : Nat) (v : Int32) : upd z k v k = v := by unfold upd; exact if_pos rfl
theorem up_n {z : RI} {k i : Nat} {v : Int32} (h : ¬ i = k) : upd z k v i = z i := by unfold upd; exact if_neg h
theorem FD.up {f : RI} (h : FD f) {k : Nat} {v : Int32} (hv : k % 7 = 0 → dok v) : FD (upd f k v) := by
  intro i hi
  by_cases e : 7 * i = k
  · rw [e, up_s]; exact hv (by omega)
  · rw [up_n e]; exact h i hi
def rsI (due tol : Int32) : Nat → Nat → RI → Int32 → RI × Int32
  | 0, _, z, q => (z, q)
  | n + 1, i, z, q => if distC (z (7 * i)) due ≤ tol then rsI due tol n (i + 1) z q else rsI due tol n (i + 1) (upd (upd z (7 * i) due) (7 * i + 2) 0) (q + 1)
/-- what a reset stands on -/
def RK (cn : Nat) (f k t : RI) (w : Nat) : Prop := WK cn k t (jrem (t 0) 1440) w ∧ FD f ∧ dok (ktL k t w)
def lrF (f k t : RI) (w : Nat) : RI := (rsI (ktL k t w) (t 2) 4 0 f 0).1
def lrQ (f k t : RI) (w : Nat) : Int32 := (rsI (ktL k t w) (t 2) 4 0 f 0).2
def lrT (f k t : RI) (w : Nat) : RI := upd t 6 (t 6 + lrQ f k t w)
set_option maxHeartbeats 4000000 in
set_option maxRecDepth 100000 in
theorem c_L_reset (l : Launch) (g : wG) (bf bk bt cn w : Nat) (f k t : Nat → Int32) (h : RK cn f k t w) : CtI l g 2 yL_reset cL_reset 6 (some .int) [.ref bf, .ref bk, .ref bt] ([(bf, .inl (g.2 0, 28, .inl f)), (bk, .inl (g.2 0, 12, .inl k)), (bt, .inl (g.2 0, 8, .inl t))]) (lrQ f k t w) ([(bf, .inl (g.2 0, 28, .inl (lrF f k t w))), (bk, .inl (g.2 0, 12, .inl k)), (bt, .inl (g.2 0, 8, .inl (lrT f k t w)))]) := by
  intro sz
  refine x_enter (Qc := fun A => QI g A (lrQ f k t w) ([(bf, .inl (g.2 0, 28, .inl (lrF f k t w))), (bk, .inl (g.2 0, 12, .inl k)), (bt, .inl (g.2 0, 8, .inl (lrT f k t w)))])) (by decide) (Nat.le_of_ble_eq_true rfl) ?_
  intro p e s m args below meth c X hr hlocks A hA hP hD hS ls hl
  obtain ⟨⟨hx, hb, hml, hown, hts⟩, hK, hN⟩ := id X
  have hl : lv_has ls 6 [(0, .ref bf), (1, .ref bk), (2, .ref bt)] := hl
  have hFD := h.2.1
  have hdk := h.2.2
  refine lv_iconst (v := 0) hx hb dL_reset_0 (by decide) ?_
  refine lv_istore_n (lv' := [(3, .int 0), (0, .ref bf), (1, .ref bk), (2, .ref bt)]) hx hb dL_reset_1 rfl hl (by decide) rfl (fun ls hl => ?_)
  refine lv_aload_n hx hb dL_reset_2 rfl (lv_at hl 2 rfl) ?_
  refine lv_aload_n hx hb dL_reset_3 rfl (lv_at hl 3 rfl) ?_
  refine x_goI (wn := [(bf, .inl (g.2 0, 28, .inl f)), (bk, .inl (g.2 0, 12, .inl k)), (bt, .inl (g.2 0, 8, .inl t))]) (x_rS (As := [.ref bk, .ref bt]) X (c_L_keeperTime l g bk bt cn w k t h.1 _) yf_L_keeperTime ys_L_keeperTime wM_L_16 ⟨Nat.le_of_ble_eq_true rfl, Nat.le_of_ble_eq_true rfl⟩ hP hD (wo_perm (ws' := [_, _] ++ [_]) 3 [1, 2, 0] rfl (by decide) rfl) hl rfl rfl (Nat.le_of_ble_eq_true rfl) dL_reset_4 ⟨Nat.zero_le _, Nat.zero_le _⟩) hP hD hS hA (wo_perm (ws' := [_, _] ++ [_]) 3 [1, 2, 0] rfl (by decide) rfl) (wo_perm 3 [0, 1, 2] rfl (by decide) rfl) (fun H locs hP hD hS => ?_)
  refine lv_istore (lv' := [(4, .int (ktL k t w)), (3, .int 0), (0, .ref bf), (1, .ref bk), (2, .ref bt)]) hx hb dL_reset_7 hl (by decide) rfl (fun ls hl => ?_)
  refine lv_iconst (v := 0) hx hb dL_reset_9 (by decide) ?_
  refine lv_istore (lv' := [(5, .int 0), (4, .int (ktL k t w)), (3, .int 0), (0, .ref bf), (1, .ref bk), (2, .ref bt)]) hx hb dL_reset_10 hl (by decide) rfl (fun ls hl => ?_)
  suffices LP12 : ∀ (n : Nat) (i : Nat) (y : Nat → Int32) (q : Int32), i + n = 4 → FD y → rsI (ktL k t w) (t 2) n i y q = rsI (ktL k t w) (t 2) 4 0 f 0 → ∀ (ls : Array Slot) (H : Heap) (locs : List Loc), va_P g.1 vwCl ([(bf, .inl (g.2 0, 28, .inl y)), (bk, .inl (g.2 0, 12, .inl k)), (bt, .inl (g.2 0, 8, .inl t))]) H → va_D A ([(bf, .inl (g.2 0, 28, .inl y)), (bk, .inl (g.2 0, 12, .inl k)), (bt, .inl (g.2 0, 8, .inl t))]) → va_S A s.heap H locs → lv_has ls 6 [(5, .int (nI i)), (4, .int (ktL k t w)), (3, .int q), (0, .ref bf), (1, .ref bk), (2, .ref bt)] → W p l e (rmD 2) s m args below meth c H locs 0 0 (MQ below (QI g A (lrQ f k t w) ([(bf, .inl (g.2 0, 28, .inl (lrF f k t w))), (bk, .inl (g.2 0, 12, .inl k)), (bt, .inl (g.2 0, 8, .inl (lrT f k t w)))])) args s 0 0 A) (F0 m 12 ls []) from LP12 4 0 f 0 rfl hFD rfl ls _ _ hP hD hS (lv_sub hl [0, 1, 2, 3, 4, 5] rfl)
  intro n
  induction n with
  | zero =>
    intro i y q hk hy ht ls H locs hP hD hS hl
    refine lv_iload hx hb dL_reset_12 (lv_at hl 0 rfl) ?_
    refine lv_iconst (v := 4) hx hb dL_reset_14 (by decide) ?_
    refine lv_icmp_ge (tgt := 64) hx hb dL_reset_15 (by decide) (fun c_1 => ?_) (fun q9 => absurd (show 4 ≤ (nI i) from (nI_le (a := 4) (by omega) (by omega))) (show ¬ (4 ≤ (nI i)) from q9))
    refine lv_aload_n hx hb dL_reset_64 rfl (lv_at hl 5 rfl) ?_
    refine lv_bipush (v := 6) hx hb dL_reset_65 (by decide) ?_
    refine lv_dup2_11 hx hb dL_reset_67 rfl rfl ?_
    refine x_iald (v := (t 6)) X 2 6 hP rfl rfl (by decide) (Nat.le_of_ble_eq_true rfl) rfl dL_reset_68 ?_
    refine lv_iload_n hx hb dL_reset_69 rfl (lv_at hl 2 rfl) ?_
    refine lv_iadd hx hb dL_reset_70 ?_
    refine x_iast (ws2 := [(bf, .inl (g.2 0, 28, .inl y)), (bk, .inl (g.2 0, 12, .inl k)), (bt, .inl (g.2 0, 8, .inl (upd t 6 ((t 6) + q))))]) X 2 6 hP hD hS rfl rfl (by decide) (Nat.le_of_ble_eq_true rfl) rfl dL_reset_71 (fun H locs hP hD hS => ?_)
    refine lv_iload_n hx hb dL_reset_72 rfl (lv_at hl 2 rfl) ?_
    have E : ([(bf, .inl (g.2 0, 28, .inl y)), (bk, .inl (g.2 0, 12, .inl k)), (bt, .inl (g.2 0, 8, .inl (upd t 6 ((t 6) + q))))] : va_W) = ([(bf, .inl (g.2 0, 28, .inl (lrF f k t w))), (bk, .inl (g.2 0, 12, .inl k)), (bt, .inl (g.2 0, 8, .inl (lrT f k t w)))]) := by unfold lrF lrT lrQ; rw [← ht]; rfl
    exact x_iret X hr hlocks (pw E hP) (dw E hD) hS (by unfold lrQ; rw [← ht]; rfl) dL_reset_73
  | succ n ih =>
    intro i y q hk hy ht ls H locs hP hD hS hl
    refine lv_iload hx hb dL_reset_12 (lv_at hl 0 rfl) ?_
    refine lv_iconst (v := 4) hx hb dL_reset_14 (by decide) ?_
    refine lv_icmp_ge (tgt := 64) hx hb dL_reset_15 (by decide) (fun q9 => absurd q9 (show ¬ 4 ≤ (nI i) from (nI_ge (b := 4) (by omega) (by omega)))) (fun c_2 => ?_)
    refine lv_aload_n hx hb dL_reset_18 rfl (lv_at hl 3 rfl) ?_
    refine lv_bipush (v := 7) hx hb dL_reset_19 (by decide) ?_
    refine lv_iload hx hb dL_reset_21 (lv_at hl 0 rfl) ?_
    refine lv_imul hx hb dL_reset_23 ?_
    refine x_iald (v := (y (7 * i))) X 0 (7 * i) hP rfl (z_mul rfl rfl) (by omega) (Nat.le_of_ble_eq_true rfl) rfl dL_reset_24 ?_
    refine lv_iload hx hb dL_reset_25 (lv_at hl 1 rfl) ?_
    refine x_goI (wn := [(bf, .inl (g.2 0, 28, .inl y)), (bk, .inl (g.2 0, 12, .inl k)), (bt, .inl (g.2 0, 8, .inl t))]) (x_rS (As := [.int (y (7 * i)), .int (ktL k t w)]) X (c_L_apart l g (y (7 * i)) (ktL k t w) (hy i (by omega)) hdk _) yf_L_apart ys_L_apart wM_L_20 ⟨Nat.le_of_ble_eq_true rfl, Nat.le_of_ble_eq_true rfl⟩ hP hD (p_none _) hl rfl rfl (Nat.le_of_ble_eq_true rfl) dL_reset_27 ⟨Nat.zero_le _, Nat.zero_le _⟩) hP hD hS hA (p_none _) (p_noneB _) (fun H locs hP hD hS => ?_)
    refine lv_aload_n hx hb dL_reset_30 rfl (lv_at hl 5 rfl) ?_
    refine lv_iconst (v := 2) hx hb dL_reset_31 (by decide) ?_
    refine x_iald (v := (t 2)) X 2 2 hP rfl rfl (by decide) (Nat.le_of_ble_eq_true rfl) rfl dL_reset_32 ?_
    refine lv_icmp_le (tgt := 58) hx hb dL_reset_33 (by decide) (fun (c_3 : (distC (y (7 * i)) (ktL k t w)) ≤ (t 2)) => ?_) (fun (c_3 : ¬ (distC (y (7 * i)) (ktL k t w)) ≤ (t 2)) => ?_)
    · refine lv_iinc (v := (nI (i + 1))) (lv' := [(5, .int (nI (i + 1))), (4, .int (ktL k t w)), (3, .int q), (0, .ref bf), (1, .ref bk), (2, .ref bt)]) hx hb dL_reset_58 hl (k := 0) rfl (nI_add _ 1) (by decide) rfl (fun ls hl => ?_)
      refine lv_goto (tgt := 12) hx hb dL_reset_61 (by decide) ?_
      exact ih (i + 1) y q (by omega) hy (by rw [← ht]; simp only [rsI, if_pos c_3]) ls _ _ hP hD hS (lv_sub hl [0, 1, 2, 3, 4, 5] rfl)
    · refine lv_aload_n hx hb dL_reset_36 rfl (lv_at hl 3 rfl) ?_
      refine lv_bipush (v := 7) hx hb dL_reset_37 (by decide) ?_
      refine lv_iload hx hb dL_reset_39 (lv_at hl 0 rfl) ?_
      refine lv_imul hx hb dL_reset_41 ?_
      refine lv_iload hx hb dL_reset_42 (lv_at hl 1 rfl) ?_
      refine x_iast (ws2 := [(bf, .inl (g.2 0, 28, .inl (upd y (7 * i) (ktL k t w)))), (bk, .inl (g.2 0, 12, .inl k)), (bt, .inl (g.2 0, 8, .inl t))]) X 0 (7 * i) hP hD hS rfl (z_mul rfl rfl) (by omega) (Nat.le_of_ble_eq_true rfl) rfl dL_reset_44 (fun H locs hP hD hS => ?_)
      refine lv_aload_n hx hb dL_reset_45 rfl (lv_at hl 3 rfl) ?_
      refine lv_bipush (v := 7) hx hb dL_reset_46 (by decide) ?_
      refine lv_iload hx hb dL_reset_48 (lv_at hl 0 rfl) ?_
      refine lv_imul hx hb dL_reset_50 ?_
      refine lv_iconst (v := 2) hx hb dL_reset_51 (by decide) ?_
      refine lv_iadd hx hb dL_reset_52 ?_
      refine lv_iconst (v := 0) hx hb dL_reset_53 (by decide) ?_
      refine x_iast (ws2 := [(bf, .inl (g.2 0, 28, .inl (upd (upd y (7 * i) (ktL k t w)) ((7 * i) + 2) 0))), (bk, .inl (g.2 0, 12, .inl k)), (bt, .inl (g.2 0, 8, .inl t))]) X 0 ((7 * i) + 2) hP hD hS rfl (z_add (z_mul rfl rfl) rfl) (by omega) (Nat.le_of_ble_eq_true rfl) rfl dL_reset_54 (fun H locs hP hD hS => ?_)
      refine lv_iinc (v := (q + 1)) (lv' := [(3, .int (q + 1)), (5, .int (nI i)), (4, .int (ktL k t w)), (0, .ref bf), (1, .ref bk), (2, .ref bt)]) hx hb dL_reset_55 hl (k := 2) rfl rfl (by decide) rfl (fun ls hl => ?_)
      refine lv_iinc (v := (nI (i + 1))) (lv' := [(5, .int (nI (i + 1))), (3, .int (q + 1)), (4, .int (ktL k t w)), (0, .ref bf), (1, .ref bk), (2, .ref bt)]) hx hb dL_reset_58 hl (k := 1) rfl (nI_add _ 1) (by decide) rfl (fun ls hl => ?_)
      refine lv_goto (tgt := 12) hx hb dL_reset_61 (by decide) ?_
      exact ih (i + 1) (upd (upd y (7 * i) (ktL k t w)) (7 * i + 2) 0) (q + 1) (by omega) ((hy.up (fun _ => hdk)).up (fun q8 => absurd q8 (by omega))) (by rw [← ht]; simp only [rsI, if_neg c_3]) ls _ _ hP hD hS (lv_sub hl [0, 2, 1, 3, 4, 5] rfl)

def spI : Nat → Nat → RI → Int32 → Int32
  | 0, _, _, u => u
  | n + 1, m, z, u => if distC (z (7 * (m / 4))) (z (7 * (m % 4))) ≤ u then spI n (m + 1) z u else spI n (m + 1) z (distC (z (7 * (m / 4))) (z (7 * (m % 4))))
def spL (z : RI) : Int32 := spI 16 0 z 0
set_option maxHeartbeats 4000000 in
set_option maxRecDepth 100000 in
theorem c_L_spread (l : Launch) (g : wG) (bf : Nat) (f : Nat → Int32) (hFD : FD f) : CtI l g 1 yL_spread cL_spread 4 (some .int) [.ref bf] ([(bf, .inl (g.2 0, 28, .inl f))]) (spL f) ([(bf, .inl (g.2 0, 28, .inl f))]) := by
  intro sz
  refine x_enter (Qc := fun A => QI g A (spL f) ([(bf, .inl (g.2 0, 28, .inl f))])) (by decide) (Nat.le_of_ble_eq_true rfl) ?_
  intro p e s m args below meth c X hr hlocks A hA hP hD hS ls hl
  obtain ⟨⟨hx, hb, hml, hown, hts⟩, hK, hN⟩ := id X
  have hl : lv_has ls 4 [(0, .ref bf)] := hl
  refine lv_iconst (v := 0) hx hb dL_spread_0 (by decide) ?_
  refine lv_istore_n (lv' := [(1, .int 0), (0, .ref bf)]) hx hb dL_spread_1 rfl hl (by decide) rfl (fun ls hl => ?_)
  refine lv_iconst (v := 0) hx hb dL_spread_2 (by decide) ?_
  refine lv_istore_n (lv' := [(2, .int 0), (1, .int 0), (0, .ref bf)]) hx hb dL_spread_3 rfl hl (by decide) rfl (fun ls hl => ?_)
  suffices LP4 : ∀ (n : Nat) (i : Nat) (u : Int32), i + n = 16 → spI n i f u = spL f → ∀ (ls : Array Slot) (H : Heap) (locs : List Loc), va_P g.1 vwCl ([(bf, .inl (g.2 0, 28, .inl f))]) H → va_D A ([(bf, .inl (g.2 0, 28, .inl f))]) → va_S A s.heap H locs → lv_has ls 4 [(2, .int (nI i)), (1, .int u), (0, .ref bf)] → W p l e (rmD 1) s m args below meth c H locs 0 0 (MQ below (QI g A (spL f) ([(bf, .inl (g.2 0, 28, .inl f))])) args s 0 0 A) (F0 m 4 ls []) from LP4 16 0 0 rfl rfl ls _ _ hP hD hS (lv_sub hl [0, 1, 2] rfl)
  intro n
  induction n with
  | zero =>
    intro i u hk ht ls H locs hP hD hS hl
    refine lv_iload_n hx hb dL_spread_4 rfl (lv_at hl 0 rfl) ?_
    refine lv_bipush (v := 16) hx hb dL_spread_5 (by decide) ?_
    refine lv_icmp_ge (tgt := 47) hx hb dL_spread_7 (by decide) (fun c_1 => ?_) (fun q9 => absurd (show 16 ≤ (nI i) from (nI_le (a := 16) (by omega) (by omega))) (show ¬ (16 ≤ (nI i)) from q9))
    refine lv_iload_n hx hb dL_spread_47 rfl (lv_at hl 1 rfl) ?_
    exact x_iret X hr hlocks hP hD hS ht dL_spread_48
  | succ n ih =>
    intro i u hk ht ls H locs hP hD hS hl
    refine lv_iload_n hx hb dL_spread_4 rfl (lv_at hl 0 rfl) ?_
    refine lv_bipush (v := 16) hx hb dL_spread_5 (by decide) ?_
    refine lv_icmp_ge (tgt := 47) hx hb dL_spread_7 (by decide) (fun q9 => absurd q9 (show ¬ 16 ≤ (nI i) from (nI_ge (b := 16) (by omega) (by omega)))) (fun c_2 => ?_)
    refine lv_aload_n hx hb dL_spread_10 rfl (lv_at hl 2 rfl) ?_
    refine lv_bipush (v := 7) hx hb dL_spread_11 (by decide) ?_
    refine lv_iload_n hx hb dL_spread_13 rfl (lv_at hl 0 rfl) ?_
    refine lv_iconst (v := 4) hx hb dL_spread_14 (by decide) ?_
    refine lv_idiv hx hb dL_spread_15 (by decide) ?_
    refine lv_imul hx hb dL_spread_16 ?_
    refine x_iald (v := (f (7 * (i / 4)))) X 0 (7 * (i / 4)) hP rfl (z_mul rfl (z_div rfl rfl (by omega) (by omega) (by omega))) (by omega) (Nat.le_of_ble_eq_true rfl) rfl dL_spread_17 ?_
    refine lv_aload_n hx hb dL_spread_18 rfl (lv_at hl 2 rfl) ?_
    refine lv_bipush (v := 7) hx hb dL_spread_19 (by decide) ?_
    refine lv_iload_n hx hb dL_spread_21 rfl (lv_at hl 0 rfl) ?_
    refine lv_iconst (v := 4) hx hb dL_spread_22 (by decide) ?_
    refine lv_irem hx hb dL_spread_23 (by decide) ?_
    refine lv_imul hx hb dL_spread_24 ?_
    refine x_iald (v := (f (7 * (i % 4)))) X 0 (7 * (i % 4)) hP rfl (z_mul rfl (z_rem rfl rfl (by omega) (by omega) (by omega))) (by omega) (Nat.le_of_ble_eq_true rfl) rfl dL_spread_25 ?_
    refine x_goI (wn := [(bf, .inl (g.2 0, 28, .inl f))]) (x_rS (As := [.int (f (7 * (i / 4))), .int (f (7 * (i % 4)))]) X (c_L_apart l g (f (7 * (i / 4))) (f (7 * (i % 4))) (hFD _ (by omega)) (hFD _ (by omega)) _) yf_L_apart ys_L_apart wM_L_20 ⟨Nat.le_of_ble_eq_true rfl, Nat.le_of_ble_eq_true rfl⟩ hP hD (p_none _) hl rfl rfl (Nat.le_of_ble_eq_true rfl) dL_spread_26 ⟨Nat.zero_le _, Nat.zero_le _⟩) hP hD hS hA (p_none _) (p_noneB _) (fun H locs hP hD hS => ?_)
    refine lv_istore_n (lv' := [(3, .int (distC (f (7 * (i / 4))) (f (7 * (i % 4))))), (2, .int (nI i)), (1, .int u), (0, .ref bf)]) hx hb dL_spread_29 rfl hl (by decide) rfl (fun ls hl => ?_)
    refine lv_iload_n hx hb dL_spread_30 rfl (lv_at hl 0 rfl) ?_
    refine lv_iload_n hx hb dL_spread_31 rfl (lv_at hl 2 rfl) ?_
    refine lv_icmp_le (tgt := 39) hx hb dL_spread_32 (by decide) (fun (c_3 : (distC (f (7 * (i / 4))) (f (7 * (i % 4)))) ≤ u) => ?_) (fun (c_3 : ¬ (distC (f (7 * (i / 4))) (f (7 * (i % 4)))) ≤ u) => ?_)
    · refine lv_iload_n hx hb dL_spread_39 rfl (lv_at hl 2 rfl) ?_
      refine lv_istore_n (lv' := [(1, .int u), (3, .int (distC (f (7 * (i / 4))) (f (7 * (i % 4))))), (2, .int (nI i)), (0, .ref bf)]) hx hb dL_spread_40 rfl hl (by decide) rfl (fun ls hl => ?_)
      refine lv_iinc (v := (nI (i + 1))) (lv' := [(2, .int (nI (i + 1))), (1, .int u), (3, .int (distC (f (7 * (i / 4))) (f (7 * (i % 4))))), (0, .ref bf)]) hx hb dL_spread_41 hl (k := 2) rfl (nI_add _ 1) (by decide) rfl (fun ls hl => ?_)
      refine lv_goto (tgt := 4) hx hb dL_spread_44 (by decide) ?_
      exact ih (i + 1) u (by omega) (by rw [← ht]; simp only [spI, if_pos c_3]) ls _ _ hP hD hS (lv_sub hl [0, 1, 3] rfl)
    · refine lv_iload_n hx hb dL_spread_35 rfl (lv_at hl 0 rfl) ?_
      refine lv_goto (tgt := 40) hx hb dL_spread_36 (by decide) ?_
      refine lv_istore_n (lv' := [(1, .int (distC (f (7 * (i / 4))) (f (7 * (i % 4))))), (3, .int (distC (f (7 * (i / 4))) (f (7 * (i % 4))))), (2, .int (nI i)), (0, .ref bf)]) hx hb dL_spread_40 rfl hl (by decide) rfl (fun ls hl => ?_)
      refine lv_iinc (v := (nI (i + 1))) (lv' := [(2, .int (nI (i + 1))), (1, .int (distC (f (7 * (i / 4))) (f (7 * (i % 4))))), (3, .int (distC (f (7 * (i / 4))) (f (7 * (i % 4))))), (0, .ref bf)]) hx hb dL_spread_41 hl (k := 2) rfl (nI_add _ 1) (by decide) rfl (fun ls hl => ?_)
      refine lv_goto (tgt := 4) hx hb dL_spread_44 (by decide) ?_
      exact ih (i + 1) (distC (f (7 * (i / 4))) (f (7 * (i % 4)))) (by omega) (by rw [← ht]; simp only [spI, if_neg c_3]) ls _ _ hP hD hS (lv_sub hl [0, 1, 3] rfl)

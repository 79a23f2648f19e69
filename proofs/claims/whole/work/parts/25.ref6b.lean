theorem num_lt {a : Int32} (hA : isw (-1000 - 48) a 9 = 0) {B : RI} {Y : Nat} {u : Nat × Int32} (hs : u.1 < 2 ^ 31) (h : (wtM (isw (fgM B Y u.1) a 9) u).2 = -1000) : (wtM (isw (fgM B Y u.1) a 9) u).1 ≤ Y := by
  unfold wtM at h ⊢
  by_cases hw : u.2 = -1000
  · rw [if_pos hw] at h ⊢
    by_cases h0 : isw (fgM B Y u.1) a 9 = 0
    · have h' : nI u.1 = -1000 := by rw [if_pos h0] at h; exact h
      exact absurd h' (ne1000 hs)
    · rcases Nat.lt_or_ge u.1 Y with q | q
      · exact q
      · exfalso
        apply h0
        unfold fgM ltM
        rw [if_pos (nI_le q hs)]
        exact hA
  · rw [if_neg hw] at h
    exact absurd h hw
theorem fg_end {B : RI} {Y s : Nat} (h : Y ≤ s) (hs : s < 2 ^ 31) : isw (ltM B Y s - 48) 0 9 = 0 := by
  unfold ltM
  rw [if_pos (nI_le h hs)]
  decide
def nuL (B : RI) (Y : Nat) (b : Int32) : Nat → Nat → Int32 → Nat × Int32
  | 0, s, x => (s, x)
  | n + 1, s, x => if isw (fgM B Y s) 0 9 = 0 then (s, x) else if b < (10 * x) + fgM B Y s then (s, x) else nuL B Y b n (s + 1) ((10 * x) + fgM B Y s)
def nuU (B : RI) (Y : Nat) (a : Int32) (u : Nat × Int32) : Nat × Int32 := wtM (isw (fgM B Y u.1) a 9) u
def numP (B : RI) (Y : Nat) (a b : Int32) (u : Nat × Int32) : Nat × Int32 := if (nuU B Y a u).2 = -1000 then (if fgM B Y u.1 ≤ 0 then ((nuU B Y a u).1, fgM B Y u.1) else nuL B Y b (Y - (nuU B Y a u).1) (nuU B Y a u).1 (fgM B Y u.1)) else ((nuU B Y a u).1, fgM B Y u.1)
set_option maxHeartbeats 4000000 in
set_option maxRecDepth 100000 in
theorem c_X6_number_k (l : Launch) (g : wG) (o : Nat → Nat) (r : MS) (hy6 : mY r ≤ 60) (hs : mS r < 1000) : CtI l g 1 yX6_number cX6_number 6 (some .int) [.ref (o 0), .int 0, .int 30] (MW g o r) ((numP (mB r) (mY r) 0 30 (uM r)).2) (MW g o (msu r ((numP (mB r) (mY r) 0 30 (uM r)).1, (nuU (mB r) (mY r) 0 (uM r)).2))) := by
  intro sz
  refine x_enter (Qc := fun A => QI g A ((numP (mB r) (mY r) 0 30 (uM r)).2) (MW g o (msu r ((numP (mB r) (mY r) 0 30 (uM r)).1, (nuU (mB r) (mY r) 0 (uM r)).2)))) (by decide) (Nat.le_of_ble_eq_true rfl) ?_
  intro p e s m args below meth c X hr hlocks A hA hP hD hS ls hl
  obtain ⟨⟨hx, hb, hml, hown, hts⟩, hK, hN⟩ := id X
  have hl : lv_has ls 6 [(0, .ref (o 0)), (1, .int 0), (2, .int 30)] := hl
  refine lv_aload_n hx hb dX6_number_0 rfl (lv_at hl 0 rfl) ?_
  refine x_goI (wn := MW g o r) (x_rV (As := []) X (c_X6_letter l g o r hy6 (show mS r < 2 ^ 31 from by omega)  _) yf_X6_letter yi_X6_letter wM_X6_141 ⟨Nat.le_of_ble_eq_true rfl, Nat.le_of_ble_eq_true rfl⟩ hP hD (p_all _) 0 rfl rfl hl rfl rfl (Nat.le_of_ble_eq_true rfl) dX6_number_1 ⟨Nat.zero_le _, Nat.zero_le _⟩) hP hD hS hA (p_all _) (p_back _) (fun H locs hP hD hS => ?_)
  refine lv_bipush (v := 48) hx hb dX6_number_4 (by decide) ?_
  refine lv_isub hx hb dX6_number_6 ?_
  refine lv_istore_n (lv' := [(3, .int ((ltM (mB r) (mY r) (mS r)) - 48)), (0, .ref (o 0)), (1, .int 0), (2, .int 30)]) hx hb dX6_number_7 rfl hl (by decide) rfl (fun ls hl => ?_)
  refine lv_aload_n hx hb dX6_number_8 rfl (lv_at hl 1 rfl) ?_
  refine lv_iload_n hx hb dX6_number_9 rfl (lv_at hl 0 rfl) ?_
  refine lv_iload_n hx hb dX6_number_10 rfl (lv_at hl 2 rfl) ?_
  refine lv_bipush (v := 9) hx hb dX6_number_11 (by decide) ?_
  refine x_goI (wn := MW g o r) (x_rS (As := [.int ((ltM (mB r) (mY r) (mS r)) - 48), .int 0, .int 9]) X (c_X6_in l g ((ltM (mB r) (mY r) (mS r)) - 48) 0 9 _) yf_X6_in ys_X6_in wM_X6_33 ⟨Nat.le_of_ble_eq_true rfl, Nat.le_of_ble_eq_true rfl⟩ hP hD (p_none _) hl rfl rfl (Nat.le_of_ble_eq_true rfl) dX6_number_13 ⟨Nat.zero_le _, Nat.zero_le _⟩) hP hD hS hA (p_none _) (p_noneB _) (fun H locs hP hD hS => ?_)
  refine x_goV (wn := MW g o ((mZ r), (mP r), (mK r), (mA r), (mB r), (mO r), (mM r), (mI r), (mY r), (mT r), ((wtM (isw ((ltM (mB r) (mY r) (mS r)) - 48) 0 9) (uM r)).1), ((wtM (isw ((ltM (mB r) (mY r) (mS r)) - 48) 0 9) (uM r)).2))) (x_rV (As := [.int (isw ((ltM (mB r) (mY r) (mS r)) - 48) 0 9)]) X (c_X6_wants l g o r  (isw ((ltM (mB r) (mY r) (mS r)) - 48) 0 9) _) yf_X6_wants yi_X6_wants wM_X6_144 ⟨Nat.le_of_ble_eq_true rfl, Nat.le_of_ble_eq_true rfl⟩ hP hD (p_all _) 0 rfl rfl hl rfl rfl (Nat.le_of_ble_eq_true rfl) dX6_number_16 ⟨Nat.zero_le _, Nat.zero_le _⟩) hP hD hS hA (p_all _) (p_back _) (fun H locs hP hD hS => ?_)
  have hP : va_P g.1 vwCl (MW g o ((mZ r), (mP r), (mK r), (mA r), (mB r), (mO r), (mM r), (mI r), (mY r), (mT r), ((nuU (mB r) (mY r) 0 (uM r)).1), ((nuU (mB r) (mY r) 0 (uM r)).2))) H := hP
  have hD : va_D A (MW g o ((mZ r), (mP r), (mK r), (mA r), (mB r), (mO r), (mM r), (mI r), (mY r), (mT r), ((nuU (mB r) (mY r) 0 (uM r)).1), ((nuU (mB r) (mY r) 0 (uM r)).2))) := hD
  refine lv_aload_n hx hb dX6_number_19 rfl (lv_at hl 1 rfl) ?_
  refine x_get (v := .int ((nuU (mB r) (mY r) 0 (uM r)).2)) X 0 11 in_X6 hP rfl rfl (by decide) wF_X6_138 rfl rfl dX6_number_20 ?_
  refine lv_sipush (v := (-1000)) hx hb dX6_number_23 (by decide) ?_
  refine lv_icmp_ne (tgt := 37) hx hb dX6_number_26 (by decide) (fun (c_1 : ¬ ((nuU (mB r) (mY r) 0 (uM r)).2) = (-1000)) => ?_) (fun (c_1 : ((nuU (mB r) (mY r) 0 (uM r)).2) = (-1000)) => ?_)
  · refine lv_iconst (v := 0) hx hb dX6_number_37 (by decide) ?_
    refine lv_istore (lv' := [(4, .int 0), (3, .int ((ltM (mB r) (mY r) (mS r)) - 48)), (0, .ref (o 0)), (1, .int 0), (2, .int 30)]) hx hb dX6_number_38 hl (by decide) rfl (fun ls hl => ?_)
    refine lv_iload hx hb dX6_number_40 (lv_at hl 0 rfl) ?_
    refine lv_if_eq (tgt := 122) hx hb dX6_number_42 (by decide) (fun c_2 => ?_) (fun q9 => absurd (show (0 : Int32) = 0 from (by decide)) (show ¬ ((0 : Int32) = 0) from q9))
    refine lv_iload_n hx hb dX6_number_122 rfl (lv_at hl 1 rfl) ?_
    have E : (MW g o ((mZ r), (mP r), (mK r), (mA r), (mB r), (mO r), (mM r), (mI r), (mY r), (mT r), ((nuU (mB r) (mY r) 0 (uM r)).1), ((nuU (mB r) (mY r) 0 (uM r)).2)) : va_W) = MW g o (msu r ((numP (mB r) (mY r) 0 30 (uM r)).1, (nuU (mB r) (mY r) 0 (uM r)).2)) := by (rw [show (numP (mB r) (mY r) 0 30 (uM r)) = ((nuU (mB r) (mY r) 0 (uM r)).1, fgM (mB r) (mY r) (uM r).1) from if_neg c_1]) <;> rfl
    exact x_iret X hr hlocks (pw E hP) (dw E hD) hS (by (rw [show (numP (mB r) (mY r) 0 30 (uM r)) = ((nuU (mB r) (mY r) 0 (uM r)).1, fgM (mB r) (mY r) (uM r).1) from if_neg c_1]) <;> rfl) dX6_number_123
  · refine lv_iload_n hx hb dX6_number_29 rfl (lv_at hl 0 rfl) ?_
    refine lv_if_le (tgt := 37) hx hb dX6_number_30 (by decide) (fun (c_3 : ((ltM (mB r) (mY r) (mS r)) - 48) ≤ 0) => ?_) (fun (c_3 : ¬ ((ltM (mB r) (mY r) (mS r)) - 48) ≤ 0) => ?_)
    · refine lv_iconst (v := 0) hx hb dX6_number_37 (by decide) ?_
      refine lv_istore (lv' := [(4, .int 0), (3, .int ((ltM (mB r) (mY r) (mS r)) - 48)), (0, .ref (o 0)), (1, .int 0), (2, .int 30)]) hx hb dX6_number_38 hl (by decide) rfl (fun ls hl => ?_)
      refine lv_iload hx hb dX6_number_40 (lv_at hl 0 rfl) ?_
      refine lv_if_eq (tgt := 122) hx hb dX6_number_42 (by decide) (fun c_4 => ?_) (fun q9 => absurd (show (0 : Int32) = 0 from (by decide)) (show ¬ ((0 : Int32) = 0) from q9))
      refine lv_iload_n hx hb dX6_number_122 rfl (lv_at hl 1 rfl) ?_
      have E : (MW g o ((mZ r), (mP r), (mK r), (mA r), (mB r), (mO r), (mM r), (mI r), (mY r), (mT r), ((nuU (mB r) (mY r) 0 (uM r)).1), ((nuU (mB r) (mY r) 0 (uM r)).2)) : va_W) = MW g o (msu r ((numP (mB r) (mY r) 0 30 (uM r)).1, (nuU (mB r) (mY r) 0 (uM r)).2)) := by (rw [show (numP (mB r) (mY r) 0 30 (uM r)) = ((nuU (mB r) (mY r) 0 (uM r)).1, fgM (mB r) (mY r) (uM r).1) from (if_pos c_1).trans (if_pos c_3)]) <;> rfl
      exact x_iret X hr hlocks (pw E hP) (dw E hD) hS (by (rw [show (numP (mB r) (mY r) 0 30 (uM r)) = ((nuU (mB r) (mY r) 0 (uM r)).1, fgM (mB r) (mY r) (uM r).1) from (if_pos c_1).trans (if_pos c_3)]) <;> rfl) dX6_number_123
    · refine lv_iconst (v := 1) hx hb dX6_number_33 (by decide) ?_
      refine lv_goto (tgt := 38) hx hb dX6_number_34 (by decide) ?_
      refine lv_istore (lv' := [(4, .int 1), (3, .int ((ltM (mB r) (mY r) (mS r)) - 48)), (0, .ref (o 0)), (1, .int 0), (2, .int 30)]) hx hb dX6_number_38 hl (by decide) rfl (fun ls hl => ?_)
      refine lv_iload hx hb dX6_number_40 (lv_at hl 0 rfl) ?_
      refine lv_if_eq (tgt := 122) hx hb dX6_number_42 (by decide) (fun q9 => absurd q9 (show ¬ (1 : Int32) = 0 from (by decide))) (fun c_5 => ?_)
      suffices LP45 : ∀ (n : Nat) (sx : Nat) (x : Int32), sx + n = mY r → nuL (mB r) (mY r) 30 n sx x = (numP (mB r) (mY r) 0 30 (uM r)) → ∀ (ls : Array Slot) (H : Heap) (locs : List Loc), va_P g.1 vwCl (MW g o ((mZ r), (mP r), (mK r), (mA r), (mB r), (mO r), (mM r), (mI r), (mY r), (mT r), sx, ((nuU (mB r) (mY r) 0 (uM r)).2))) H → va_D A (MW g o ((mZ r), (mP r), (mK r), (mA r), (mB r), (mO r), (mM r), (mI r), (mY r), (mT r), sx, ((nuU (mB r) (mY r) 0 (uM r)).2))) → va_S A s.heap H locs → lv_has ls 6 [(3, .int x), (2, .int 30), (0, .ref (o 0))] → W p l e (rmD 1) s m args below meth c H locs 0 0 (MQ below (QI g A ((numP (mB r) (mY r) 0 30 (uM r)).2) (MW g o (msu r ((numP (mB r) (mY r) 0 30 (uM r)).1, (nuU (mB r) (mY r) 0 (uM r)).2)))) args s 0 0 A) (F0 m 45 ls []) from LP45 (mY r - (nuU (mB r) (mY r) 0 (uM r)).1) ((nuU (mB r) (mY r) 0 (uM r)).1) (fgM (mB r) (mY r) (mS r)) (Nat.add_sub_cancel' (num_lt (by decide) (show (uM r).1 < 2 ^ 31 from by show mS r < 2 ^ 31; omega) c_1)) (by unfold numP; exact ((if_pos c_1).trans (if_neg c_3)).symm) ls _ _ hP hD hS (lv_sub hl [1, 4, 2] rfl)
      intro n
      induction n with
      | zero =>
        intro sx x hk ht ls H locs hP hD hS hl
        refine lv_aload_n hx hb dX6_number_45 rfl (lv_at hl 2 rfl) ?_
        refine x_goI (wn := MW g o ((mZ r), (mP r), (mK r), (mA r), (mB r), (mO r), (mM r), (mI r), (mY r), (mT r), sx, ((nuU (mB r) (mY r) 0 (uM r)).2))) (x_rV (As := []) X (c_X6_letter l g o ((mZ r), (mP r), (mK r), (mA r), (mB r), (mO r), (mM r), (mI r), (mY r), (mT r), sx, ((nuU (mB r) (mY r) 0 (uM r)).2)) hy6 (show sx < 2 ^ 31 from by omega)  _) yf_X6_letter yi_X6_letter wM_X6_141 ⟨Nat.le_of_ble_eq_true rfl, Nat.le_of_ble_eq_true rfl⟩ hP hD (p_all _) 0 rfl rfl hl rfl rfl (Nat.le_of_ble_eq_true rfl) dX6_number_46 ⟨Nat.zero_le _, Nat.zero_le _⟩) hP hD hS hA (p_all _) (p_back _) (fun H locs hP hD hS => ?_)
        refine lv_bipush (v := 48) hx hb dX6_number_49 (by decide) ?_
        refine lv_isub hx hb dX6_number_51 ?_
        refine lv_istore (lv' := [(5, .int ((ltM (mB r) (mY r) sx) - 48)), (3, .int x), (2, .int 30), (0, .ref (o 0))]) hx hb dX6_number_52 hl (by decide) rfl (fun ls hl => ?_)
        refine lv_iload hx hb dX6_number_54 (lv_at hl 0 rfl) ?_
        refine lv_iconst (v := 0) hx hb dX6_number_56 (by decide) ?_
        refine lv_bipush (v := 9) hx hb dX6_number_57 (by decide) ?_
        refine x_goI (wn := MW g o ((mZ r), (mP r), (mK r), (mA r), (mB r), (mO r), (mM r), (mI r), (mY r), (mT r), sx, ((nuU (mB r) (mY r) 0 (uM r)).2))) (x_rS (As := [.int ((ltM (mB r) (mY r) sx) - 48), .int 0, .int 9]) X (c_X6_in l g ((ltM (mB r) (mY r) sx) - 48) 0 9 _) yf_X6_in ys_X6_in wM_X6_33 ⟨Nat.le_of_ble_eq_true rfl, Nat.le_of_ble_eq_true rfl⟩ hP hD (p_none _) hl rfl rfl (Nat.le_of_ble_eq_true rfl) dX6_number_59 ⟨Nat.zero_le _, Nat.zero_le _⟩) hP hD hS hA (p_none _) (p_noneB _) (fun H locs hP hD hS => ?_)
        refine lv_if_eq (tgt := 80) hx hb dX6_number_62 (by decide) (fun c_6 => ?_) (fun q9 => absurd (show (isw ((ltM (mB r) (mY r) sx) - 48) 0 9) = 0 from (fg_end (B := mB r) (Y := mY r) (s := sx) (by omega) (by omega))) (show ¬ ((isw ((ltM (mB r) (mY r) sx) - 48) 0 9) = 0) from q9))
        refine lv_iconst (v := 0) hx hb dX6_number_80 (by decide) ?_
        refine lv_istore (lv' := [(4, .int 0), (5, .int ((ltM (mB r) (mY r) sx) - 48)), (3, .int x), (2, .int 30), (0, .ref (o 0))]) hx hb dX6_number_81 hl (by decide) rfl (fun ls hl => ?_)
        refine lv_iload hx hb dX6_number_83 (lv_at hl 0 rfl) ?_
        refine lv_if_eq (tgt := 98) hx hb dX6_number_85 (by decide) (fun c_7 => ?_) (fun q9 => absurd (show (0 : Int32) = 0 from (by decide)) (show ¬ ((0 : Int32) = 0) from q9))
        refine lv_iload_n hx hb dX6_number_98 rfl (lv_at hl 2 rfl) ?_
        refine lv_istore_n (lv' := [(3, .int x), (4, .int 0), (5, .int ((ltM (mB r) (mY r) sx) - 48)), (2, .int 30), (0, .ref (o 0))]) hx hb dX6_number_99 rfl hl (by decide) rfl (fun ls hl => ?_)
        refine lv_aload_n hx hb dX6_number_100 rfl (lv_at hl 4 rfl) ?_
        refine lv_dup hx hb dX6_number_101 rfl ?_
        refine x_get (v := .int (nI sx)) X 0 10 in_X6 hP rfl rfl (by decide) wF_X6_135 rfl rfl dX6_number_102 ?_
        refine lv_iload hx hb dX6_number_105 (lv_at hl 1 rfl) ?_
        refine lv_if_eq (tgt := 114) hx hb dX6_number_107 (by decide) (fun c_8 => ?_) (fun q9 => absurd (show (0 : Int32) = 0 from (by decide)) (show ¬ ((0 : Int32) = 0) from q9))
        refine lv_iconst (v := 0) hx hb dX6_number_114 (by decide) ?_
        refine lv_iadd hx hb dX6_number_115 ?_
        refine W.eq (g2 := F0 m 116 ls [.int (nI sx), .ref (o 0)]) (by rw [show ((nI sx) + 0) = (nI sx) from Int32.add_zero _]) ?_
        refine x_put (v := .int (nI sx)) (ty0 := tyX6) (ws2 := MW g o ((mZ r), (mP r), (mK r), (mA r), (mB r), (mO r), (mM r), (mI r), (mY r), (mT r), sx, ((nuU (mB r) (mY r) 0 (uM r)).2))) X 0 10 in_X6 tyX6_ok nmX6 hP hD hS rfl rfl (by decide) wF_X6_135 rfl rfl rfl rfl (Nat.le_of_ble_eq_true rfl) rfl dX6_number_116 (fun H locs hP hD hS => ?_)
        refine lv_goto (tgt := 40) hx hb dX6_number_119 (by decide) ?_
        refine lv_iload hx hb dX6_number_40 (lv_at hl 1 rfl) ?_
        refine lv_if_eq (tgt := 122) hx hb dX6_number_42 (by decide) (fun c_9 => ?_) (fun q9 => absurd (show (0 : Int32) = 0 from (by decide)) (show ¬ ((0 : Int32) = 0) from q9))
        refine lv_iload_n hx hb dX6_number_122 rfl (lv_at hl 0 rfl) ?_
        have E : (MW g o ((mZ r), (mP r), (mK r), (mA r), (mB r), (mO r), (mM r), (mI r), (mY r), (mT r), sx, ((nuU (mB r) (mY r) 0 (uM r)).2)) : va_W) = MW g o (msu r ((numP (mB r) (mY r) 0 30 (uM r)).1, (nuU (mB r) (mY r) 0 (uM r)).2)) := by (rw [← ht, show nuL (mB r) (mY r) 30 0 sx x = (sx, x) from rfl]) <;> rfl
        exact x_iret X hr hlocks (pw E hP) (dw E hD) hS (by (rw [← ht, show nuL (mB r) (mY r) 30 0 sx x = (sx, x) from rfl]) <;> rfl) dX6_number_123
      | succ n ih =>
        intro sx x hk ht ls H locs hP hD hS hl
        refine lv_aload_n hx hb dX6_number_45 rfl (lv_at hl 2 rfl) ?_
        refine x_goI (wn := MW g o ((mZ r), (mP r), (mK r), (mA r), (mB r), (mO r), (mM r), (mI r), (mY r), (mT r), sx, ((nuU (mB r) (mY r) 0 (uM r)).2))) (x_rV (As := []) X (c_X6_letter l g o ((mZ r), (mP r), (mK r), (mA r), (mB r), (mO r), (mM r), (mI r), (mY r), (mT r), sx, ((nuU (mB r) (mY r) 0 (uM r)).2)) hy6 (show sx < 2 ^ 31 from by omega)  _) yf_X6_letter yi_X6_letter wM_X6_141 ⟨Nat.le_of_ble_eq_true rfl, Nat.le_of_ble_eq_true rfl⟩ hP hD (p_all _) 0 rfl rfl hl rfl rfl (Nat.le_of_ble_eq_true rfl) dX6_number_46 ⟨Nat.zero_le _, Nat.zero_le _⟩) hP hD hS hA (p_all _) (p_back _) (fun H locs hP hD hS => ?_)
        refine lv_bipush (v := 48) hx hb dX6_number_49 (by decide) ?_
        refine lv_isub hx hb dX6_number_51 ?_
        refine lv_istore (lv' := [(5, .int ((ltM (mB r) (mY r) sx) - 48)), (3, .int x), (2, .int 30), (0, .ref (o 0))]) hx hb dX6_number_52 hl (by decide) rfl (fun ls hl => ?_)
        refine lv_iload hx hb dX6_number_54 (lv_at hl 0 rfl) ?_
        refine lv_iconst (v := 0) hx hb dX6_number_56 (by decide) ?_
        refine lv_bipush (v := 9) hx hb dX6_number_57 (by decide) ?_
        refine x_goI (wn := MW g o ((mZ r), (mP r), (mK r), (mA r), (mB r), (mO r), (mM r), (mI r), (mY r), (mT r), sx, ((nuU (mB r) (mY r) 0 (uM r)).2))) (x_rS (As := [.int ((ltM (mB r) (mY r) sx) - 48), .int 0, .int 9]) X (c_X6_in l g ((ltM (mB r) (mY r) sx) - 48) 0 9 _) yf_X6_in ys_X6_in wM_X6_33 ⟨Nat.le_of_ble_eq_true rfl, Nat.le_of_ble_eq_true rfl⟩ hP hD (p_none _) hl rfl rfl (Nat.le_of_ble_eq_true rfl) dX6_number_59 ⟨Nat.zero_le _, Nat.zero_le _⟩) hP hD hS hA (p_none _) (p_noneB _) (fun H locs hP hD hS => ?_)
        refine lv_if_eq (tgt := 80) hx hb dX6_number_62 (by decide) (fun (c_10 : (isw ((ltM (mB r) (mY r) sx) - 48) 0 9) = 0) => ?_) (fun (c_10 : ¬ (isw ((ltM (mB r) (mY r) sx) - 48) 0 9) = 0) => ?_)
        · refine lv_iconst (v := 0) hx hb dX6_number_80 (by decide) ?_
          refine lv_istore (lv' := [(4, .int 0), (5, .int ((ltM (mB r) (mY r) sx) - 48)), (3, .int x), (2, .int 30), (0, .ref (o 0))]) hx hb dX6_number_81 hl (by decide) rfl (fun ls hl => ?_)
          refine lv_iload hx hb dX6_number_83 (lv_at hl 0 rfl) ?_
          refine lv_if_eq (tgt := 98) hx hb dX6_number_85 (by decide) (fun c_11 => ?_) (fun q9 => absurd (show (0 : Int32) = 0 from (by decide)) (show ¬ ((0 : Int32) = 0) from q9))
          refine lv_iload_n hx hb dX6_number_98 rfl (lv_at hl 2 rfl) ?_
          refine lv_istore_n (lv' := [(3, .int x), (4, .int 0), (5, .int ((ltM (mB r) (mY r) sx) - 48)), (2, .int 30), (0, .ref (o 0))]) hx hb dX6_number_99 rfl hl (by decide) rfl (fun ls hl => ?_)
          refine lv_aload_n hx hb dX6_number_100 rfl (lv_at hl 4 rfl) ?_
          refine lv_dup hx hb dX6_number_101 rfl ?_
          refine x_get (v := .int (nI sx)) X 0 10 in_X6 hP rfl rfl (by decide) wF_X6_135 rfl rfl dX6_number_102 ?_
          refine lv_iload hx hb dX6_number_105 (lv_at hl 1 rfl) ?_
          refine lv_if_eq (tgt := 114) hx hb dX6_number_107 (by decide) (fun c_12 => ?_) (fun q9 => absurd (show (0 : Int32) = 0 from (by decide)) (show ¬ ((0 : Int32) = 0) from q9))
          refine lv_iconst (v := 0) hx hb dX6_number_114 (by decide) ?_
          refine lv_iadd hx hb dX6_number_115 ?_
          refine W.eq (g2 := F0 m 116 ls [.int (nI sx), .ref (o 0)]) (by rw [show ((nI sx) + 0) = (nI sx) from Int32.add_zero _]) ?_
          refine x_put (v := .int (nI sx)) (ty0 := tyX6) (ws2 := MW g o ((mZ r), (mP r), (mK r), (mA r), (mB r), (mO r), (mM r), (mI r), (mY r), (mT r), sx, ((nuU (mB r) (mY r) 0 (uM r)).2))) X 0 10 in_X6 tyX6_ok nmX6 hP hD hS rfl rfl (by decide) wF_X6_135 rfl rfl rfl rfl (Nat.le_of_ble_eq_true rfl) rfl dX6_number_116 (fun H locs hP hD hS => ?_)
          refine lv_goto (tgt := 40) hx hb dX6_number_119 (by decide) ?_
          refine lv_iload hx hb dX6_number_40 (lv_at hl 1 rfl) ?_
          refine lv_if_eq (tgt := 122) hx hb dX6_number_42 (by decide) (fun c_13 => ?_) (fun q9 => absurd (show (0 : Int32) = 0 from (by decide)) (show ¬ ((0 : Int32) = 0) from q9))
          refine lv_iload_n hx hb dX6_number_122 rfl (lv_at hl 0 rfl) ?_
          have E : (MW g o ((mZ r), (mP r), (mK r), (mA r), (mB r), (mO r), (mM r), (mI r), (mY r), (mT r), sx, ((nuU (mB r) (mY r) 0 (uM r)).2)) : va_W) = MW g o (msu r ((numP (mB r) (mY r) 0 30 (uM r)).1, (nuU (mB r) (mY r) 0 (uM r)).2)) := by (rw [← ht, show nuL (mB r) (mY r) 30 (n + 1) sx x = (sx, x) from if_pos c_10]) <;> rfl
          exact x_iret X hr hlocks (pw E hP) (dw E hD) hS (by (rw [← ht, show nuL (mB r) (mY r) 30 (n + 1) sx x = (sx, x) from if_pos c_10]) <;> rfl) dX6_number_123
        · refine lv_bipush (v := 10) hx hb dX6_number_65 (by decide) ?_
          refine lv_iload_n hx hb dX6_number_67 rfl (lv_at hl 1 rfl) ?_
          refine lv_imul hx hb dX6_number_68 ?_
          refine lv_iload hx hb dX6_number_69 (lv_at hl 0 rfl) ?_
          refine lv_iadd hx hb dX6_number_71 ?_
          refine lv_iload_n hx hb dX6_number_72 rfl (lv_at hl 2 rfl) ?_
          refine lv_icmp_gt (tgt := 80) hx hb dX6_number_73 (by decide) (fun (c_14 : 30 < ((10 * x) + ((ltM (mB r) (mY r) sx) - 48))) => ?_) (fun (c_14 : ¬ 30 < ((10 * x) + ((ltM (mB r) (mY r) sx) - 48))) => ?_)
          · refine lv_iconst (v := 0) hx hb dX6_number_80 (by decide) ?_
            refine lv_istore (lv' := [(4, .int 0), (5, .int ((ltM (mB r) (mY r) sx) - 48)), (3, .int x), (2, .int 30), (0, .ref (o 0))]) hx hb dX6_number_81 hl (by decide) rfl (fun ls hl => ?_)
            refine lv_iload hx hb dX6_number_83 (lv_at hl 0 rfl) ?_
            refine lv_if_eq (tgt := 98) hx hb dX6_number_85 (by decide) (fun c_15 => ?_) (fun q9 => absurd (show (0 : Int32) = 0 from (by decide)) (show ¬ ((0 : Int32) = 0) from q9))
            refine lv_iload_n hx hb dX6_number_98 rfl (lv_at hl 2 rfl) ?_
            refine lv_istore_n (lv' := [(3, .int x), (4, .int 0), (5, .int ((ltM (mB r) (mY r) sx) - 48)), (2, .int 30), (0, .ref (o 0))]) hx hb dX6_number_99 rfl hl (by decide) rfl (fun ls hl => ?_)
            refine lv_aload_n hx hb dX6_number_100 rfl (lv_at hl 4 rfl) ?_
            refine lv_dup hx hb dX6_number_101 rfl ?_
            refine x_get (v := .int (nI sx)) X 0 10 in_X6 hP rfl rfl (by decide) wF_X6_135 rfl rfl dX6_number_102 ?_
            refine lv_iload hx hb dX6_number_105 (lv_at hl 1 rfl) ?_
            refine lv_if_eq (tgt := 114) hx hb dX6_number_107 (by decide) (fun c_16 => ?_) (fun q9 => absurd (show (0 : Int32) = 0 from (by decide)) (show ¬ ((0 : Int32) = 0) from q9))
            refine lv_iconst (v := 0) hx hb dX6_number_114 (by decide) ?_
            refine lv_iadd hx hb dX6_number_115 ?_
            refine W.eq (g2 := F0 m 116 ls [.int (nI sx), .ref (o 0)]) (by rw [show ((nI sx) + 0) = (nI sx) from Int32.add_zero _]) ?_
            refine x_put (v := .int (nI sx)) (ty0 := tyX6) (ws2 := MW g o ((mZ r), (mP r), (mK r), (mA r), (mB r), (mO r), (mM r), (mI r), (mY r), (mT r), sx, ((nuU (mB r) (mY r) 0 (uM r)).2))) X 0 10 in_X6 tyX6_ok nmX6 hP hD hS rfl rfl (by decide) wF_X6_135 rfl rfl rfl rfl (Nat.le_of_ble_eq_true rfl) rfl dX6_number_116 (fun H locs hP hD hS => ?_)
            refine lv_goto (tgt := 40) hx hb dX6_number_119 (by decide) ?_
            refine lv_iload hx hb dX6_number_40 (lv_at hl 1 rfl) ?_
            refine lv_if_eq (tgt := 122) hx hb dX6_number_42 (by decide) (fun c_17 => ?_) (fun q9 => absurd (show (0 : Int32) = 0 from (by decide)) (show ¬ ((0 : Int32) = 0) from q9))
            refine lv_iload_n hx hb dX6_number_122 rfl (lv_at hl 0 rfl) ?_
            have E : (MW g o ((mZ r), (mP r), (mK r), (mA r), (mB r), (mO r), (mM r), (mI r), (mY r), (mT r), sx, ((nuU (mB r) (mY r) 0 (uM r)).2)) : va_W) = MW g o (msu r ((numP (mB r) (mY r) 0 30 (uM r)).1, (nuU (mB r) (mY r) 0 (uM r)).2)) := by (rw [← ht, show nuL (mB r) (mY r) 30 (n + 1) sx x = (sx, x) from (if_neg c_10).trans (if_pos c_14)]) <;> rfl
            exact x_iret X hr hlocks (pw E hP) (dw E hD) hS (by (rw [← ht, show nuL (mB r) (mY r) 30 (n + 1) sx x = (sx, x) from (if_neg c_10).trans (if_pos c_14)]) <;> rfl) dX6_number_123
          · refine lv_iconst (v := 1) hx hb dX6_number_76 (by decide) ?_
            refine lv_goto (tgt := 81) hx hb dX6_number_77 (by decide) ?_
            refine lv_istore (lv' := [(4, .int 1), (5, .int ((ltM (mB r) (mY r) sx) - 48)), (3, .int x), (2, .int 30), (0, .ref (o 0))]) hx hb dX6_number_81 hl (by decide) rfl (fun ls hl => ?_)
            refine lv_iload hx hb dX6_number_83 (lv_at hl 0 rfl) ?_
            refine lv_if_eq (tgt := 98) hx hb dX6_number_85 (by decide) (fun q9 => absurd q9 (show ¬ (1 : Int32) = 0 from (by decide))) (fun c_18 => ?_)
            refine lv_bipush (v := 10) hx hb dX6_number_88 (by decide) ?_
            refine lv_iload_n hx hb dX6_number_90 rfl (lv_at hl 2 rfl) ?_
            refine lv_imul hx hb dX6_number_91 ?_
            refine lv_iload hx hb dX6_number_92 (lv_at hl 1 rfl) ?_
            refine lv_iadd hx hb dX6_number_94 ?_
            refine lv_goto (tgt := 99) hx hb dX6_number_95 (by decide) ?_
            refine lv_istore_n (lv' := [(3, .int ((10 * x) + ((ltM (mB r) (mY r) sx) - 48))), (4, .int 1), (5, .int ((ltM (mB r) (mY r) sx) - 48)), (2, .int 30), (0, .ref (o 0))]) hx hb dX6_number_99 rfl hl (by decide) rfl (fun ls hl => ?_)
            refine lv_aload_n hx hb dX6_number_100 rfl (lv_at hl 4 rfl) ?_
            refine lv_dup hx hb dX6_number_101 rfl ?_
            refine x_get (v := .int (nI sx)) X 0 10 in_X6 hP rfl rfl (by decide) wF_X6_135 rfl rfl dX6_number_102 ?_
            refine lv_iload hx hb dX6_number_105 (lv_at hl 1 rfl) ?_
            refine lv_if_eq (tgt := 114) hx hb dX6_number_107 (by decide) (fun q9 => absurd q9 (show ¬ (1 : Int32) = 0 from (by decide))) (fun c_19 => ?_)
            refine lv_iconst (v := 1) hx hb dX6_number_110 (by decide) ?_
            refine lv_goto (tgt := 115) hx hb dX6_number_111 (by decide) ?_
            refine lv_iadd hx hb dX6_number_115 ?_
            refine W.eq (g2 := F0 m 116 ls [.int (nI (sx + 1)), .ref (o 0)]) (by rw [nI_1]) ?_
            refine x_put (v := .int (nI (sx + 1))) (ty0 := tyX6) (ws2 := MW g o ((mZ r), (mP r), (mK r), (mA r), (mB r), (mO r), (mM r), (mI r), (mY r), (mT r), (sx + 1), ((nuU (mB r) (mY r) 0 (uM r)).2))) X 0 10 in_X6 tyX6_ok nmX6 hP hD hS rfl rfl (by decide) wF_X6_135 rfl rfl rfl rfl (Nat.le_of_ble_eq_true rfl) rfl dX6_number_116 (fun H locs hP hD hS => ?_)
            refine lv_goto (tgt := 40) hx hb dX6_number_119 (by decide) ?_
            refine lv_iload hx hb dX6_number_40 (lv_at hl 1 rfl) ?_
            refine lv_if_eq (tgt := 122) hx hb dX6_number_42 (by decide) (fun q9 => absurd q9 (show ¬ (1 : Int32) = 0 from (by decide))) (fun c_20 => ?_)
            exact ih (sx + 1) ((10 * x) + fgM (mB r) (mY r) sx) (by omega) (by rw [← ht]; exact (show nuL (mB r) (mY r) 30 (n + 1) sx x = _ from (if_neg c_10).trans (if_neg c_14)).symm) ls _ _ hP hD hS (lv_sub hl [0, 3, 4] rfl)

set_option maxHeartbeats 4000000 in
set_option maxRecDepth 100000 in
theorem c_X6_number_w (l : Launch) (g : wG) (o : Nat → Nat) (r : MS) (hy6 : mY r ≤ 60) (hs : mS r < 1000) : CtI l g 1 yX6_number cX6_number 6 (some .int) [.ref (o 0), .int 1, .int 2000] (MW g o r) ((numP (mB r) (mY r) 1 2000 (uM r)).2) (MW g o (msu r ((numP (mB r) (mY r) 1 2000 (uM r)).1, (nuU (mB r) (mY r) 1 (uM r)).2))) := by
  intro sz
  refine x_enter (Qc := fun A => QI g A ((numP (mB r) (mY r) 1 2000 (uM r)).2) (MW g o (msu r ((numP (mB r) (mY r) 1 2000 (uM r)).1, (nuU (mB r) (mY r) 1 (uM r)).2)))) (by decide) (Nat.le_of_ble_eq_true rfl) ?_
  intro p e s m args below meth c X hr hlocks A hA hP hD hS ls hl
  obtain ⟨⟨hx, hb, hml, hown, hts⟩, hK, hN⟩ := id X
  have hl : lv_has ls 6 [(0, .ref (o 0)), (1, .int 1), (2, .int 2000)] := hl
  refine lv_aload_n hx hb dX6_number_0 rfl (lv_at hl 0 rfl) ?_
  refine x_goI (wn := MW g o r) (x_rV (As := []) X (c_X6_letter l g o r hy6 (show mS r < 2 ^ 31 from by omega)  _) yf_X6_letter yi_X6_letter wM_X6_141 ⟨Nat.le_of_ble_eq_true rfl, Nat.le_of_ble_eq_true rfl⟩ hP hD (p_all _) 0 rfl rfl hl rfl rfl (Nat.le_of_ble_eq_true rfl) dX6_number_1 ⟨Nat.zero_le _, Nat.zero_le _⟩) hP hD hS hA (p_all _) (p_back _) (fun H locs hP hD hS => ?_)
  refine lv_bipush (v := 48) hx hb dX6_number_4 (by decide) ?_
  refine lv_isub hx hb dX6_number_6 ?_
  refine lv_istore_n (lv' := [(3, .int ((ltM (mB r) (mY r) (mS r)) - 48)), (0, .ref (o 0)), (1, .int 1), (2, .int 2000)]) hx hb dX6_number_7 rfl hl (by decide) rfl (fun ls hl => ?_)
  refine lv_aload_n hx hb dX6_number_8 rfl (lv_at hl 1 rfl) ?_
  refine lv_iload_n hx hb dX6_number_9 rfl (lv_at hl 0 rfl) ?_
  refine lv_iload_n hx hb dX6_number_10 rfl (lv_at hl 2 rfl) ?_
  refine lv_bipush (v := 9) hx hb dX6_number_11 (by decide) ?_
  refine x_goI (wn := MW g o r) (x_rS (As := [.int ((ltM (mB r) (mY r) (mS r)) - 48), .int 1, .int 9]) X (c_X6_in l g ((ltM (mB r) (mY r) (mS r)) - 48) 1 9 _) yf_X6_in ys_X6_in wM_X6_33 ⟨Nat.le_of_ble_eq_true rfl, Nat.le_of_ble_eq_true rfl⟩ hP hD (p_none _) hl rfl rfl (Nat.le_of_ble_eq_true rfl) dX6_number_13 ⟨Nat.zero_le _, Nat.zero_le _⟩) hP hD hS hA (p_none _) (p_noneB _) (fun H locs hP hD hS => ?_)
  refine x_goV (wn := MW g o ((mZ r), (mP r), (mK r), (mA r), (mB r), (mO r), (mM r), (mI r), (mY r), (mT r), ((wtM (isw ((ltM (mB r) (mY r) (mS r)) - 48) 1 9) (uM r)).1), ((wtM (isw ((ltM (mB r) (mY r) (mS r)) - 48) 1 9) (uM r)).2))) (x_rV (As := [.int (isw ((ltM (mB r) (mY r) (mS r)) - 48) 1 9)]) X (c_X6_wants l g o r  (isw ((ltM (mB r) (mY r) (mS r)) - 48) 1 9) _) yf_X6_wants yi_X6_wants wM_X6_144 ⟨Nat.le_of_ble_eq_true rfl, Nat.le_of_ble_eq_true rfl⟩ hP hD (p_all _) 0 rfl rfl hl rfl rfl (Nat.le_of_ble_eq_true rfl) dX6_number_16 ⟨Nat.zero_le _, Nat.zero_le _⟩) hP hD hS hA (p_all _) (p_back _) (fun H locs hP hD hS => ?_)
  have hP : va_P g.1 vwCl (MW g o ((mZ r), (mP r), (mK r), (mA r), (mB r), (mO r), (mM r), (mI r), (mY r), (mT r), ((nuU (mB r) (mY r) 1 (uM r)).1), ((nuU (mB r) (mY r) 1 (uM r)).2))) H := hP
  have hD : va_D A (MW g o ((mZ r), (mP r), (mK r), (mA r), (mB r), (mO r), (mM r), (mI r), (mY r), (mT r), ((nuU (mB r) (mY r) 1 (uM r)).1), ((nuU (mB r) (mY r) 1 (uM r)).2))) := hD
  refine lv_aload_n hx hb dX6_number_19 rfl (lv_at hl 1 rfl) ?_
  refine x_get (v := .int ((nuU (mB r) (mY r) 1 (uM r)).2)) X 0 11 in_X6 hP rfl rfl (by decide) wF_X6_138 rfl rfl dX6_number_20 ?_
  refine lv_sipush (v := (-1000)) hx hb dX6_number_23 (by decide) ?_
  refine lv_icmp_ne (tgt := 37) hx hb dX6_number_26 (by decide) (fun (c_1 : ¬ ((nuU (mB r) (mY r) 1 (uM r)).2) = (-1000)) => ?_) (fun (c_1 : ((nuU (mB r) (mY r) 1 (uM r)).2) = (-1000)) => ?_)
  · refine lv_iconst (v := 0) hx hb dX6_number_37 (by decide) ?_
    refine lv_istore (lv' := [(4, .int 0), (3, .int ((ltM (mB r) (mY r) (mS r)) - 48)), (0, .ref (o 0)), (1, .int 1), (2, .int 2000)]) hx hb dX6_number_38 hl (by decide) rfl (fun ls hl => ?_)
    refine lv_iload hx hb dX6_number_40 (lv_at hl 0 rfl) ?_
    refine lv_if_eq (tgt := 122) hx hb dX6_number_42 (by decide) (fun c_2 => ?_) (fun q9 => absurd (show (0 : Int32) = 0 from (by decide)) (show ¬ ((0 : Int32) = 0) from q9))
    refine lv_iload_n hx hb dX6_number_122 rfl (lv_at hl 1 rfl) ?_
    have E : (MW g o ((mZ r), (mP r), (mK r), (mA r), (mB r), (mO r), (mM r), (mI r), (mY r), (mT r), ((nuU (mB r) (mY r) 1 (uM r)).1), ((nuU (mB r) (mY r) 1 (uM r)).2)) : va_W) = MW g o (msu r ((numP (mB r) (mY r) 1 2000 (uM r)).1, (nuU (mB r) (mY r) 1 (uM r)).2)) := by (rw [show (numP (mB r) (mY r) 1 2000 (uM r)) = ((nuU (mB r) (mY r) 1 (uM r)).1, fgM (mB r) (mY r) (uM r).1) from if_neg c_1]) <;> rfl
    exact x_iret X hr hlocks (pw E hP) (dw E hD) hS (by (rw [show (numP (mB r) (mY r) 1 2000 (uM r)) = ((nuU (mB r) (mY r) 1 (uM r)).1, fgM (mB r) (mY r) (uM r).1) from if_neg c_1]) <;> rfl) dX6_number_123
  · refine lv_iload_n hx hb dX6_number_29 rfl (lv_at hl 0 rfl) ?_
    refine lv_if_le (tgt := 37) hx hb dX6_number_30 (by decide) (fun (c_3 : ((ltM (mB r) (mY r) (mS r)) - 48) ≤ 0) => ?_) (fun (c_3 : ¬ ((ltM (mB r) (mY r) (mS r)) - 48) ≤ 0) => ?_)
    · refine lv_iconst (v := 0) hx hb dX6_number_37 (by decide) ?_
      refine lv_istore (lv' := [(4, .int 0), (3, .int ((ltM (mB r) (mY r) (mS r)) - 48)), (0, .ref (o 0)), (1, .int 1), (2, .int 2000)]) hx hb dX6_number_38 hl (by decide) rfl (fun ls hl => ?_)
      refine lv_iload hx hb dX6_number_40 (lv_at hl 0 rfl) ?_
      refine lv_if_eq (tgt := 122) hx hb dX6_number_42 (by decide) (fun c_4 => ?_) (fun q9 => absurd (show (0 : Int32) = 0 from (by decide)) (show ¬ ((0 : Int32) = 0) from q9))
      refine lv_iload_n hx hb dX6_number_122 rfl (lv_at hl 1 rfl) ?_
      have E : (MW g o ((mZ r), (mP r), (mK r), (mA r), (mB r), (mO r), (mM r), (mI r), (mY r), (mT r), ((nuU (mB r) (mY r) 1 (uM r)).1), ((nuU (mB r) (mY r) 1 (uM r)).2)) : va_W) = MW g o (msu r ((numP (mB r) (mY r) 1 2000 (uM r)).1, (nuU (mB r) (mY r) 1 (uM r)).2)) := by (rw [show (numP (mB r) (mY r) 1 2000 (uM r)) = ((nuU (mB r) (mY r) 1 (uM r)).1, fgM (mB r) (mY r) (uM r).1) from (if_pos c_1).trans (if_pos c_3)]) <;> rfl
      exact x_iret X hr hlocks (pw E hP) (dw E hD) hS (by (rw [show (numP (mB r) (mY r) 1 2000 (uM r)) = ((nuU (mB r) (mY r) 1 (uM r)).1, fgM (mB r) (mY r) (uM r).1) from (if_pos c_1).trans (if_pos c_3)]) <;> rfl) dX6_number_123
    · refine lv_iconst (v := 1) hx hb dX6_number_33 (by decide) ?_
      refine lv_goto (tgt := 38) hx hb dX6_number_34 (by decide) ?_
      refine lv_istore (lv' := [(4, .int 1), (3, .int ((ltM (mB r) (mY r) (mS r)) - 48)), (0, .ref (o 0)), (1, .int 1), (2, .int 2000)]) hx hb dX6_number_38 hl (by decide) rfl (fun ls hl => ?_)
      refine lv_iload hx hb dX6_number_40 (lv_at hl 0 rfl) ?_
      refine lv_if_eq (tgt := 122) hx hb dX6_number_42 (by decide) (fun q9 => absurd q9 (show ¬ (1 : Int32) = 0 from (by decide))) (fun c_5 => ?_)
      suffices LP45 : ∀ (n : Nat) (sx : Nat) (x : Int32), sx + n = mY r → nuL (mB r) (mY r) 2000 n sx x = (numP (mB r) (mY r) 1 2000 (uM r)) → ∀ (ls : Array Slot) (H : Heap) (locs : List Loc), va_P g.1 vwCl (MW g o ((mZ r), (mP r), (mK r), (mA r), (mB r), (mO r), (mM r), (mI r), (mY r), (mT r), sx, ((nuU (mB r) (mY r) 1 (uM r)).2))) H → va_D A (MW g o ((mZ r), (mP r), (mK r), (mA r), (mB r), (mO r), (mM r), (mI r), (mY r), (mT r), sx, ((nuU (mB r) (mY r) 1 (uM r)).2))) → va_S A s.heap H locs → lv_has ls 6 [(3, .int x), (2, .int 2000), (0, .ref (o 0))] → W p l e (rmD 1) s m args below meth c H locs 0 0 (MQ below (QI g A ((numP (mB r) (mY r) 1 2000 (uM r)).2) (MW g o (msu r ((numP (mB r) (mY r) 1 2000 (uM r)).1, (nuU (mB r) (mY r) 1 (uM r)).2)))) args s 0 0 A) (F0 m 45 ls []) from LP45 (mY r - (nuU (mB r) (mY r) 1 (uM r)).1) ((nuU (mB r) (mY r) 1 (uM r)).1) (fgM (mB r) (mY r) (mS r)) (Nat.add_sub_cancel' (num_lt (by decide) (show (uM r).1 < 2 ^ 31 from by show mS r < 2 ^ 31; omega) c_1)) (by unfold numP; exact ((if_pos c_1).trans (if_neg c_3)).symm) ls _ _ hP hD hS (lv_sub hl [1, 4, 2] rfl)
      intro n
      induction n with
      | zero =>
        intro sx x hk ht ls H locs hP hD hS hl
        refine lv_aload_n hx hb dX6_number_45 rfl (lv_at hl 2 rfl) ?_
        refine x_goI (wn := MW g o ((mZ r), (mP r), (mK r), (mA r), (mB r), (mO r), (mM r), (mI r), (mY r), (mT r), sx, ((nuU (mB r) (mY r) 1 (uM r)).2))) (x_rV (As := []) X (c_X6_letter l g o ((mZ r), (mP r), (mK r), (mA r), (mB r), (mO r), (mM r), (mI r), (mY r), (mT r), sx, ((nuU (mB r) (mY r) 1 (uM r)).2)) hy6 (show sx < 2 ^ 31 from by omega)  _) yf_X6_letter yi_X6_letter wM_X6_141 ⟨Nat.le_of_ble_eq_true rfl, Nat.le_of_ble_eq_true rfl⟩ hP hD (p_all _) 0 rfl rfl hl rfl rfl (Nat.le_of_ble_eq_true rfl) dX6_number_46 ⟨Nat.zero_le _, Nat.zero_le _⟩) hP hD hS hA (p_all _) (p_back _) (fun H locs hP hD hS => ?_)
        refine lv_bipush (v := 48) hx hb dX6_number_49 (by decide) ?_
        refine lv_isub hx hb dX6_number_51 ?_
        refine lv_istore (lv' := [(5, .int ((ltM (mB r) (mY r) sx) - 48)), (3, .int x), (2, .int 2000), (0, .ref (o 0))]) hx hb dX6_number_52 hl (by decide) rfl (fun ls hl => ?_)
        refine lv_iload hx hb dX6_number_54 (lv_at hl 0 rfl) ?_
        refine lv_iconst (v := 0) hx hb dX6_number_56 (by decide) ?_
        refine lv_bipush (v := 9) hx hb dX6_number_57 (by decide) ?_
        refine x_goI (wn := MW g o ((mZ r), (mP r), (mK r), (mA r), (mB r), (mO r), (mM r), (mI r), (mY r), (mT r), sx, ((nuU (mB r) (mY r) 1 (uM r)).2))) (x_rS (As := [.int ((ltM (mB r) (mY r) sx) - 48), .int 0, .int 9]) X (c_X6_in l g ((ltM (mB r) (mY r) sx) - 48) 0 9 _) yf_X6_in ys_X6_in wM_X6_33 ⟨Nat.le_of_ble_eq_true rfl, Nat.le_of_ble_eq_true rfl⟩ hP hD (p_none _) hl rfl rfl (Nat.le_of_ble_eq_true rfl) dX6_number_59 ⟨Nat.zero_le _, Nat.zero_le _⟩) hP hD hS hA (p_none _) (p_noneB _) (fun H locs hP hD hS => ?_)
        refine lv_if_eq (tgt := 80) hx hb dX6_number_62 (by decide) (fun c_6 => ?_) (fun q9 => absurd (show (isw ((ltM (mB r) (mY r) sx) - 48) 0 9) = 0 from (fg_end (B := mB r) (Y := mY r) (s := sx) (by omega) (by omega))) (show ¬ ((isw ((ltM (mB r) (mY r) sx) - 48) 0 9) = 0) from q9))
        refine lv_iconst (v := 0) hx hb dX6_number_80 (by decide) ?_
        refine lv_istore (lv' := [(4, .int 0), (5, .int ((ltM (mB r) (mY r) sx) - 48)), (3, .int x), (2, .int 2000), (0, .ref (o 0))]) hx hb dX6_number_81 hl (by decide) rfl (fun ls hl => ?_)
        refine lv_iload hx hb dX6_number_83 (lv_at hl 0 rfl) ?_
        refine lv_if_eq (tgt := 98) hx hb dX6_number_85 (by decide) (fun c_7 => ?_) (fun q9 => absurd (show (0 : Int32) = 0 from (by decide)) (show ¬ ((0 : Int32) = 0) from q9))
        refine lv_iload_n hx hb dX6_number_98 rfl (lv_at hl 2 rfl) ?_
        refine lv_istore_n (lv' := [(3, .int x), (4, .int 0), (5, .int ((ltM (mB r) (mY r) sx) - 48)), (2, .int 2000), (0, .ref (o 0))]) hx hb dX6_number_99 rfl hl (by decide) rfl (fun ls hl => ?_)
        refine lv_aload_n hx hb dX6_number_100 rfl (lv_at hl 4 rfl) ?_
        refine lv_dup hx hb dX6_number_101 rfl ?_
        refine x_get (v := .int (nI sx)) X 0 10 in_X6 hP rfl rfl (by decide) wF_X6_135 rfl rfl dX6_number_102 ?_
        refine lv_iload hx hb dX6_number_105 (lv_at hl 1 rfl) ?_
        refine lv_if_eq (tgt := 114) hx hb dX6_number_107 (by decide) (fun c_8 => ?_) (fun q9 => absurd (show (0 : Int32) = 0 from (by decide)) (show ¬ ((0 : Int32) = 0) from q9))
        refine lv_iconst (v := 0) hx hb dX6_number_114 (by decide) ?_
        refine lv_iadd hx hb dX6_number_115 ?_
        refine W.eq (g2 := F0 m 116 ls [.int (nI sx), .ref (o 0)]) (by rw [show ((nI sx) + 0) = (nI sx) from Int32.add_zero _]) ?_
        refine x_put (v := .int (nI sx)) (ty0 := tyX6) (ws2 := MW g o ((mZ r), (mP r), (mK r), (mA r), (mB r), (mO r), (mM r), (mI r), (mY r), (mT r), sx, ((nuU (mB r) (mY r) 1 (uM r)).2))) X 0 10 in_X6 tyX6_ok nmX6 hP hD hS rfl rfl (by decide) wF_X6_135 rfl rfl rfl rfl (Nat.le_of_ble_eq_true rfl) rfl dX6_number_116 (fun H locs hP hD hS => ?_)
        refine lv_goto (tgt := 40) hx hb dX6_number_119 (by decide) ?_
        refine lv_iload hx hb dX6_number_40 (lv_at hl 1 rfl) ?_
        refine lv_if_eq (tgt := 122) hx hb dX6_number_42 (by decide) (fun c_9 => ?_) (fun q9 => absurd (show (0 : Int32) = 0 from (by decide)) (show ¬ ((0 : Int32) = 0) from q9))
        refine lv_iload_n hx hb dX6_number_122 rfl (lv_at hl 0 rfl) ?_
        have E : (MW g o ((mZ r), (mP r), (mK r), (mA r), (mB r), (mO r), (mM r), (mI r), (mY r), (mT r), sx, ((nuU (mB r) (mY r) 1 (uM r)).2)) : va_W) = MW g o (msu r ((numP (mB r) (mY r) 1 2000 (uM r)).1, (nuU (mB r) (mY r) 1 (uM r)).2)) := by (rw [← ht, show nuL (mB r) (mY r) 2000 0 sx x = (sx, x) from rfl]) <;> rfl
        exact x_iret X hr hlocks (pw E hP) (dw E hD) hS (by (rw [← ht, show nuL (mB r) (mY r) 2000 0 sx x = (sx, x) from rfl]) <;> rfl) dX6_number_123
      | succ n ih =>
        intro sx x hk ht ls H locs hP hD hS hl
        refine lv_aload_n hx hb dX6_number_45 rfl (lv_at hl 2 rfl) ?_
        refine x_goI (wn := MW g o ((mZ r), (mP r), (mK r), (mA r), (mB r), (mO r), (mM r), (mI r), (mY r), (mT r), sx, ((nuU (mB r) (mY r) 1 (uM r)).2))) (x_rV (As := []) X (c_X6_letter l g o ((mZ r), (mP r), (mK r), (mA r), (mB r), (mO r), (mM r), (mI r), (mY r), (mT r), sx, ((nuU (mB r) (mY r) 1 (uM r)).2)) hy6 (show sx < 2 ^ 31 from by omega)  _) yf_X6_letter yi_X6_letter wM_X6_141 ⟨Nat.le_of_ble_eq_true rfl, Nat.le_of_ble_eq_true rfl⟩ hP hD (p_all _) 0 rfl rfl hl rfl rfl (Nat.le_of_ble_eq_true rfl) dX6_number_46 ⟨Nat.zero_le _, Nat.zero_le _⟩) hP hD hS hA (p_all _) (p_back _) (fun H locs hP hD hS => ?_)
        refine lv_bipush (v := 48) hx hb dX6_number_49 (by decide) ?_
        refine lv_isub hx hb dX6_number_51 ?_
        refine lv_istore (lv' := [(5, .int ((ltM (mB r) (mY r) sx) - 48)), (3, .int x), (2, .int 2000), (0, .ref (o 0))]) hx hb dX6_number_52 hl (by decide) rfl (fun ls hl => ?_)
        refine lv_iload hx hb dX6_number_54 (lv_at hl 0 rfl) ?_
        refine lv_iconst (v := 0) hx hb dX6_number_56 (by decide) ?_
        refine lv_bipush (v := 9) hx hb dX6_number_57 (by decide) ?_
        refine x_goI (wn := MW g o ((mZ r), (mP r), (mK r), (mA r), (mB r), (mO r), (mM r), (mI r), (mY r), (mT r), sx, ((nuU (mB r) (mY r) 1 (uM r)).2))) (x_rS (As := [.int ((ltM (mB r) (mY r) sx) - 48), .int 0, .int 9]) X (c_X6_in l g ((ltM (mB r) (mY r) sx) - 48) 0 9 _) yf_X6_in ys_X6_in wM_X6_33 ⟨Nat.le_of_ble_eq_true rfl, Nat.le_of_ble_eq_true rfl⟩ hP hD (p_none _) hl rfl rfl (Nat.le_of_ble_eq_true rfl) dX6_number_59 ⟨Nat.zero_le _, Nat.zero_le _⟩) hP hD hS hA (p_none _) (p_noneB _) (fun H locs hP hD hS => ?_)
        refine lv_if_eq (tgt := 80) hx hb dX6_number_62 (by decide) (fun (c_10 : (isw ((ltM (mB r) (mY r) sx) - 48) 0 9) = 0) => ?_) (fun (c_10 : ¬ (isw ((ltM (mB r) (mY r) sx) - 48) 0 9) = 0) => ?_)
        · refine lv_iconst (v := 0) hx hb dX6_number_80 (by decide) ?_
          refine lv_istore (lv' := [(4, .int 0), (5, .int ((ltM (mB r) (mY r) sx) - 48)), (3, .int x), (2, .int 2000), (0, .ref (o 0))]) hx hb dX6_number_81 hl (by decide) rfl (fun ls hl => ?_)
          refine lv_iload hx hb dX6_number_83 (lv_at hl 0 rfl) ?_
          refine lv_if_eq (tgt := 98) hx hb dX6_number_85 (by decide) (fun c_11 => ?_) (fun q9 => absurd (show (0 : Int32) = 0 from (by decide)) (show ¬ ((0 : Int32) = 0) from q9))
          refine lv_iload_n hx hb dX6_number_98 rfl (lv_at hl 2 rfl) ?_
          refine lv_istore_n (lv' := [(3, .int x), (4, .int 0), (5, .int ((ltM (mB r) (mY r) sx) - 48)), (2, .int 2000), (0, .ref (o 0))]) hx hb dX6_number_99 rfl hl (by decide) rfl (fun ls hl => ?_)
          refine lv_aload_n hx hb dX6_number_100 rfl (lv_at hl 4 rfl) ?_
          refine lv_dup hx hb dX6_number_101 rfl ?_
          refine x_get (v := .int (nI sx)) X 0 10 in_X6 hP rfl rfl (by decide) wF_X6_135 rfl rfl dX6_number_102 ?_
          refine lv_iload hx hb dX6_number_105 (lv_at hl 1 rfl) ?_
          refine lv_if_eq (tgt := 114) hx hb dX6_number_107 (by decide) (fun c_12 => ?_) (fun q9 => absurd (show (0 : Int32) = 0 from (by decide)) (show ¬ ((0 : Int32) = 0) from q9))
          refine lv_iconst (v := 0) hx hb dX6_number_114 (by decide) ?_
          refine lv_iadd hx hb dX6_number_115 ?_
          refine W.eq (g2 := F0 m 116 ls [.int (nI sx), .ref (o 0)]) (by rw [show ((nI sx) + 0) = (nI sx) from Int32.add_zero _]) ?_
          refine x_put (v := .int (nI sx)) (ty0 := tyX6) (ws2 := MW g o ((mZ r), (mP r), (mK r), (mA r), (mB r), (mO r), (mM r), (mI r), (mY r), (mT r), sx, ((nuU (mB r) (mY r) 1 (uM r)).2))) X 0 10 in_X6 tyX6_ok nmX6 hP hD hS rfl rfl (by decide) wF_X6_135 rfl rfl rfl rfl (Nat.le_of_ble_eq_true rfl) rfl dX6_number_116 (fun H locs hP hD hS => ?_)
          refine lv_goto (tgt := 40) hx hb dX6_number_119 (by decide) ?_
          refine lv_iload hx hb dX6_number_40 (lv_at hl 1 rfl) ?_
          refine lv_if_eq (tgt := 122) hx hb dX6_number_42 (by decide) (fun c_13 => ?_) (fun q9 => absurd (show (0 : Int32) = 0 from (by decide)) (show ¬ ((0 : Int32) = 0) from q9))
          refine lv_iload_n hx hb dX6_number_122 rfl (lv_at hl 0 rfl) ?_
          have E : (MW g o ((mZ r), (mP r), (mK r), (mA r), (mB r), (mO r), (mM r), (mI r), (mY r), (mT r), sx, ((nuU (mB r) (mY r) 1 (uM r)).2)) : va_W) = MW g o (msu r ((numP (mB r) (mY r) 1 2000 (uM r)).1, (nuU (mB r) (mY r) 1 (uM r)).2)) := by (rw [← ht, show nuL (mB r) (mY r) 2000 (n + 1) sx x = (sx, x) from if_pos c_10]) <;> rfl
          exact x_iret X hr hlocks (pw E hP) (dw E hD) hS (by (rw [← ht, show nuL (mB r) (mY r) 2000 (n + 1) sx x = (sx, x) from if_pos c_10]) <;> rfl) dX6_number_123
        · refine lv_bipush (v := 10) hx hb dX6_number_65 (by decide) ?_
          refine lv_iload_n hx hb dX6_number_67 rfl (lv_at hl 1 rfl) ?_
          refine lv_imul hx hb dX6_number_68 ?_
          refine lv_iload hx hb dX6_number_69 (lv_at hl 0 rfl) ?_
          refine lv_iadd hx hb dX6_number_71 ?_
          refine lv_iload_n hx hb dX6_number_72 rfl (lv_at hl 2 rfl) ?_
          refine lv_icmp_gt (tgt := 80) hx hb dX6_number_73 (by decide) (fun (c_14 : 2000 < ((10 * x) + ((ltM (mB r) (mY r) sx) - 48))) => ?_) (fun (c_14 : ¬ 2000 < ((10 * x) + ((ltM (mB r) (mY r) sx) - 48))) => ?_)
          · refine lv_iconst (v := 0) hx hb dX6_number_80 (by decide) ?_
            refine lv_istore (lv' := [(4, .int 0), (5, .int ((ltM (mB r) (mY r) sx) - 48)), (3, .int x), (2, .int 2000), (0, .ref (o 0))]) hx hb dX6_number_81 hl (by decide) rfl (fun ls hl => ?_)
            refine lv_iload hx hb dX6_number_83 (lv_at hl 0 rfl) ?_
            refine lv_if_eq (tgt := 98) hx hb dX6_number_85 (by decide) (fun c_15 => ?_) (fun q9 => absurd (show (0 : Int32) = 0 from (by decide)) (show ¬ ((0 : Int32) = 0) from q9))
            refine lv_iload_n hx hb dX6_number_98 rfl (lv_at hl 2 rfl) ?_
            refine lv_istore_n (lv' := [(3, .int x), (4, .int 0), (5, .int ((ltM (mB r) (mY r) sx) - 48)), (2, .int 2000), (0, .ref (o 0))]) hx hb dX6_number_99 rfl hl (by decide) rfl (fun ls hl => ?_)
            refine lv_aload_n hx hb dX6_number_100 rfl (lv_at hl 4 rfl) ?_
            refine lv_dup hx hb dX6_number_101 rfl ?_
            refine x_get (v := .int (nI sx)) X 0 10 in_X6 hP rfl rfl (by decide) wF_X6_135 rfl rfl dX6_number_102 ?_
            refine lv_iload hx hb dX6_number_105 (lv_at hl 1 rfl) ?_
            refine lv_if_eq (tgt := 114) hx hb dX6_number_107 (by decide) (fun c_16 => ?_) (fun q9 => absurd (show (0 : Int32) = 0 from (by decide)) (show ¬ ((0 : Int32) = 0) from q9))
            refine lv_iconst (v := 0) hx hb dX6_number_114 (by decide) ?_
            refine lv_iadd hx hb dX6_number_115 ?_
            refine W.eq (g2 := F0 m 116 ls [.int (nI sx), .ref (o 0)]) (by rw [show ((nI sx) + 0) = (nI sx) from Int32.add_zero _]) ?_
            refine x_put (v := .int (nI sx)) (ty0 := tyX6) (ws2 := MW g o ((mZ r), (mP r), (mK r), (mA r), (mB r), (mO r), (mM r), (mI r), (mY r), (mT r), sx, ((nuU (mB r) (mY r) 1 (uM r)).2))) X 0 10 in_X6 tyX6_ok nmX6 hP hD hS rfl rfl (by decide) wF_X6_135 rfl rfl rfl rfl (Nat.le_of_ble_eq_true rfl) rfl dX6_number_116 (fun H locs hP hD hS => ?_)
            refine lv_goto (tgt := 40) hx hb dX6_number_119 (by decide) ?_
            refine lv_iload hx hb dX6_number_40 (lv_at hl 1 rfl) ?_
            refine lv_if_eq (tgt := 122) hx hb dX6_number_42 (by decide) (fun c_17 => ?_) (fun q9 => absurd (show (0 : Int32) = 0 from (by decide)) (show ¬ ((0 : Int32) = 0) from q9))
            refine lv_iload_n hx hb dX6_number_122 rfl (lv_at hl 0 rfl) ?_
            have E : (MW g o ((mZ r), (mP r), (mK r), (mA r), (mB r), (mO r), (mM r), (mI r), (mY r), (mT r), sx, ((nuU (mB r) (mY r) 1 (uM r)).2)) : va_W) = MW g o (msu r ((numP (mB r) (mY r) 1 2000 (uM r)).1, (nuU (mB r) (mY r) 1 (uM r)).2)) := by (rw [← ht, show nuL (mB r) (mY r) 2000 (n + 1) sx x = (sx, x) from (if_neg c_10).trans (if_pos c_14)]) <;> rfl
            exact x_iret X hr hlocks (pw E hP) (dw E hD) hS (by (rw [← ht, show nuL (mB r) (mY r) 2000 (n + 1) sx x = (sx, x) from (if_neg c_10).trans (if_pos c_14)]) <;> rfl) dX6_number_123
          · refine lv_iconst (v := 1) hx hb dX6_number_76 (by decide) ?_
            refine lv_goto (tgt := 81) hx hb dX6_number_77 (by decide) ?_
            refine lv_istore (lv' := [(4, .int 1), (5, .int ((ltM (mB r) (mY r) sx) - 48)), (3, .int x), (2, .int 2000), (0, .ref (o 0))]) hx hb dX6_number_81 hl (by decide) rfl (fun ls hl => ?_)
            refine lv_iload hx hb dX6_number_83 (lv_at hl 0 rfl) ?_
            refine lv_if_eq (tgt := 98) hx hb dX6_number_85 (by decide) (fun q9 => absurd q9 (show ¬ (1 : Int32) = 0 from (by decide))) (fun c_18 => ?_)
            refine lv_bipush (v := 10) hx hb dX6_number_88 (by decide) ?_
            refine lv_iload_n hx hb dX6_number_90 rfl (lv_at hl 2 rfl) ?_
            refine lv_imul hx hb dX6_number_91 ?_
            refine lv_iload hx hb dX6_number_92 (lv_at hl 1 rfl) ?_
            refine lv_iadd hx hb dX6_number_94 ?_
            refine lv_goto (tgt := 99) hx hb dX6_number_95 (by decide) ?_
            refine lv_istore_n (lv' := [(3, .int ((10 * x) + ((ltM (mB r) (mY r) sx) - 48))), (4, .int 1), (5, .int ((ltM (mB r) (mY r) sx) - 48)), (2, .int 2000), (0, .ref (o 0))]) hx hb dX6_number_99 rfl hl (by decide) rfl (fun ls hl => ?_)
            refine lv_aload_n hx hb dX6_number_100 rfl (lv_at hl 4 rfl) ?_
            refine lv_dup hx hb dX6_number_101 rfl ?_
            refine x_get (v := .int (nI sx)) X 0 10 in_X6 hP rfl rfl (by decide) wF_X6_135 rfl rfl dX6_number_102 ?_
            refine lv_iload hx hb dX6_number_105 (lv_at hl 1 rfl) ?_
            refine lv_if_eq (tgt := 114) hx hb dX6_number_107 (by decide) (fun q9 => absurd q9 (show ¬ (1 : Int32) = 0 from (by decide))) (fun c_19 => ?_)
            refine lv_iconst (v := 1) hx hb dX6_number_110 (by decide) ?_
            refine lv_goto (tgt := 115) hx hb dX6_number_111 (by decide) ?_
            refine lv_iadd hx hb dX6_number_115 ?_
            refine W.eq (g2 := F0 m 116 ls [.int (nI (sx + 1)), .ref (o 0)]) (by rw [nI_1]) ?_
            refine x_put (v := .int (nI (sx + 1))) (ty0 := tyX6) (ws2 := MW g o ((mZ r), (mP r), (mK r), (mA r), (mB r), (mO r), (mM r), (mI r), (mY r), (mT r), (sx + 1), ((nuU (mB r) (mY r) 1 (uM r)).2))) X 0 10 in_X6 tyX6_ok nmX6 hP hD hS rfl rfl (by decide) wF_X6_135 rfl rfl rfl rfl (Nat.le_of_ble_eq_true rfl) rfl dX6_number_116 (fun H locs hP hD hS => ?_)
            refine lv_goto (tgt := 40) hx hb dX6_number_119 (by decide) ?_
            refine lv_iload hx hb dX6_number_40 (lv_at hl 1 rfl) ?_
            refine lv_if_eq (tgt := 122) hx hb dX6_number_42 (by decide) (fun q9 => absurd q9 (show ¬ (1 : Int32) = 0 from (by decide))) (fun c_20 => ?_)
            exact ih (sx + 1) ((10 * x) + fgM (mB r) (mY r) sx) (by omega) (by rw [← ht]; exact (show nuL (mB r) (mY r) 2000 (n + 1) sx x = _ from (if_neg c_10).trans (if_neg c_14)).symm) ls _ _ hP hD hS (lv_sub hl [0, 3, 4] rfl)

set_option maxHeartbeats 4000000 in
set_option maxRecDepth 100000 in
theorem lw_c4 {p : Program} {l : Launch} {e : Env} {s : State} {m : MethodId} {below : List Frame} {meth : Method} {c : Code} {g : wG} {tt : Nat → Nat} {b L : Nat} {xs : Nat → Int32} {A : Nat → Prop} {ad : Nat → Nat → Nat} {bf bk bt cl sl : Nat} (Z : LwX p s m c g tt b L xs A) (hcl : cl + 10 ≤ 600000) (hsl : sl + 180 ≤ 7302250) {tm cn : Nat} {q : CS} {t f k : RI} {S R : Nat → Nat} (h : RQx tm cn q t f k S R) (hq : cL q < 5) (ht9 : tm + 800 ≤ 999999) {ei fi : Nat} {hh : Int32} (hfi : fi < 4) (nx : ∀ (tm' cn' : Nat) (q' : CS) (t' f' k' : RI) (S' R' : Nat → Nat), RQx tm' cn' q' t' f' k' S' R' → cL q' < 5 → tm' ≤ tm + 800 → LwG p l e s m below meth c g b A [(8, .int 1), (5, .int (nI ei)), (1, .ref (ad 8 0)), (2, .ref bf), (3, .ref bk), (4, .ref bt), (0, .ref b)] 950 cl sl (LW g bf bk bt f' k' t' ++ CW g ad q')) : LwG p l e s m below meth c g b A [(8, .int 1), (7, .int (nI fi)), (6, .int hh), (5, .int (nI ei)), (1, .ref (ad 8 0)), (2, .ref bf), (3, .ref bk), (4, .ref bt), (0, .ref b)] 417 cl sl (LW g bf bk bt f k t ++ CW g ad q) := by
  obtain ⟨X, hZ, hT, hL, hA⟩ := Z
  obtain ⟨⟨hx, hb, hml, hown, hts⟩, hK, hN⟩ := id X
  have hc6 := h.cn6
  intro ls H locs hP hD hS hl
  have hP : va_P g.1 vwCl ([(bf, .inl (g.2 0, 28, .inl f)), (bk, .inl (g.2 0, 12, .inl k)), (bt, .inl (g.2 0, 8, .inl t))] ++ (CW g ad q)) H := hP
  have hD : va_D A ([(bf, .inl (g.2 0, 28, .inl f)), (bk, .inl (g.2 0, 12, .inl k)), (bt, .inl (g.2 0, 8, .inl t))] ++ (CW g ad q)) := hD
  refine lv_iload hx hb dL_law_417 (lv_at hl 2 rfl) ?_
  refine lv_bipush (v := 7) hx hb dL_law_419 (by decide) ?_
  refine lv_ishr hx hb dL_law_421 ?_
  refine lv_iload hx hb dL_law_422 (lv_at hl 2 rfl) ?_
  refine lv_bipush (v := 25) hx hb dL_law_424 (by decide) ?_
  refine lv_ishr hx hb dL_law_426 ?_
  refine lv_iconst (v := 2) hx hb dL_law_427 (by decide) ?_
  obtain ⟨j_1, hj_1, ej_1⟩ : ∃ j, j < 2 ∧ lowF (hh >>> (25 &&& 31)) 2 = nI j := low_n (hh >>> (25 &&& 31)) (n := 2) (by decide) (by decide)
  refine x_goI (wn := [(bf, .inl (g.2 0, 28, .inl f)), (bk, .inl (g.2 0, 12, .inl k)), (bt, .inl (g.2 0, 8, .inl t))] ++ (CW g ad q)) (x_rS (As := [.int (hh >>> (25 &&& 31)), .int 2]) X (c_L_lowj l g (hh >>> (25 &&& 31)) 2 j_1 (by decide) ej_1 _) yf_L_low ys_L_low wM_L_33 ⟨Nat.le_of_ble_eq_true rfl, Nat.le_of_ble_eq_true rfl⟩ hP hD (p_none _) hl rfl rfl (Nat.le_of_ble_eq_true rfl) dL_law_428 ⟨show cl ≤ 600000 from by omega, show sl ≤ 7302250 from by omega⟩) hP hD hS hA (p_none _) (p_noneB _) (fun H locs hP hD hS => ?_)
  refine lv_if_ne (tgt := 440) hx hb dL_law_431 (by decide) (fun (c_1 : ¬ (nI j_1) = 0) => ?_) (fun (c_1 : (nI j_1) = 0) => ?_)
  · refine lv_bipush (v := 8) hx hb dL_law_440 (by decide) ?_
    obtain ⟨j_2, hj_2, ej_2⟩ : ∃ j, j < 8 ∧ lowF (hh >>> (7 &&& 31)) 8 = nI j := low_n (hh >>> (7 &&& 31)) (n := 8) (by decide) (by decide)
    refine x_goI (wn := [(bf, .inl (g.2 0, 28, .inl f)), (bk, .inl (g.2 0, 12, .inl k)), (bt, .inl (g.2 0, 8, .inl t))] ++ (CW g ad q)) (x_rS (As := [.int (hh >>> (7 &&& 31)), .int 8]) X (c_L_lowj l g (hh >>> (7 &&& 31)) 8 j_2 (by decide) ej_2 _) yf_L_low ys_L_low wM_L_33 ⟨Nat.le_of_ble_eq_true rfl, Nat.le_of_ble_eq_true rfl⟩ hP hD (p_none _) hl rfl rfl (Nat.le_of_ble_eq_true rfl) dL_law_442 ⟨show cl ≤ 600000 from by omega, show sl ≤ 7302250 from by omega⟩) hP hD hS hA (p_none _) (p_noneB _) (fun H locs hP hD hS => ?_)
    refine lv_istore (lv' := [(11, .int (nI j_2)), (8, .int 1), (7, .int (nI fi)), (6, .int hh), (5, .int (nI ei)), (1, .ref (ad 8 0)), (2, .ref bf), (3, .ref bk), (4, .ref bt), (0, .ref b)]) hx hb dL_law_445 hl (by decide) rfl (fun ls hl => ?_)
    refine lv_iload hx hb dL_law_447 (lv_at hl 3 rfl) ?_
    refine lv_bipush (v := 18) hx hb dL_law_449 (by decide) ?_
    refine lv_ishr hx hb dL_law_451 ?_
    refine lv_bipush (v := 61) hx hb dL_law_452 (by decide) ?_
    obtain ⟨j_3, hj_3, ej_3⟩ : ∃ j, j < 61 ∧ lowF (hh >>> (18 &&& 31)) 61 = nI j := low_n (hh >>> (18 &&& 31)) (n := 61) (by decide) (by decide)
    refine x_goI (wn := [(bf, .inl (g.2 0, 28, .inl f)), (bk, .inl (g.2 0, 12, .inl k)), (bt, .inl (g.2 0, 8, .inl t))] ++ (CW g ad q)) (x_rS (As := [.int (hh >>> (18 &&& 31)), .int 61]) X (c_L_lowj l g (hh >>> (18 &&& 31)) 61 j_3 (by decide) ej_3 _) yf_L_low ys_L_low wM_L_33 ⟨Nat.le_of_ble_eq_true rfl, Nat.le_of_ble_eq_true rfl⟩ hP hD (p_none _) hl rfl rfl (Nat.le_of_ble_eq_true rfl) dL_law_454 ⟨show cl ≤ 600000 from by omega, show sl ≤ 7302250 from by omega⟩) hP hD hS hA (p_none _) (p_noneB _) (fun H locs hP hD hS => ?_)
    refine lv_bipush (v := 30) hx hb dL_law_457 (by decide) ?_
    refine lv_isub hx hb dL_law_459 ?_
    refine lv_istore (lv' := [(12, .int ((nI j_3) - 30)), (11, .int (nI j_2)), (8, .int 1), (7, .int (nI fi)), (6, .int hh), (5, .int (nI ei)), (1, .ref (ad 8 0)), (2, .ref bf), (3, .ref bk), (4, .ref bt), (0, .ref b)]) hx hb dL_law_460 hl (by decide) rfl (fun ls hl => ?_)
    refine lv_iconst (v := 0) hx hb dL_law_462 (by decide) ?_
    refine lv_istore (lv' := [(13, .int 0), (12, .int ((nI j_3) - 30)), (11, .int (nI j_2)), (8, .int 1), (7, .int (nI fi)), (6, .int hh), (5, .int (nI ei)), (1, .ref (ad 8 0)), (2, .ref bf), (3, .ref bk), (4, .ref bt), (0, .ref b)]) hx hb dL_law_463 hl (by decide) rfl (fun ls hl => ?_)
    refine lv_iconst (v := 0) hx hb dL_law_465 (by decide) ?_
    refine lv_istore (lv' := [(14, .int 0), (13, .int 0), (12, .int ((nI j_3) - 30)), (11, .int (nI j_2)), (8, .int 1), (7, .int (nI fi)), (6, .int hh), (5, .int (nI ei)), (1, .ref (ad 8 0)), (2, .ref bf), (3, .ref bk), (4, .ref bt), (0, .ref b)]) hx hb dL_law_466 hl (by decide) rfl (fun ls hl => ?_)
    suffices LP468 : ∀ (n : Nat) (m9 : Nat) (u9 : Int32), m9 + n = cn → thL k (nI j_2) n m9 u9 = thL k (nI j_2) cn 0 0 → ∀ (ls : Array Slot) (H : Heap) (locs : List Loc), va_P g.1 vwCl ([(bf, .inl (g.2 0, 28, .inl f)), (bk, .inl (g.2 0, 12, .inl k)), (bt, .inl (g.2 0, 8, .inl t))] ++ (CW g ad q)) H → va_D A ([(bf, .inl (g.2 0, 28, .inl f)), (bk, .inl (g.2 0, 12, .inl k)), (bt, .inl (g.2 0, 8, .inl t))] ++ (CW g ad q)) → va_S A s.heap H locs → lv_has ls 22 [(14, .int (nI m9)), (13, .int u9), (11, .int (nI j_2)), (12, .int ((nI j_3) - 30)), (8, .int 1), (5, .int (nI ei)), (1, .ref (ad 8 0)), (2, .ref bf), (3, .ref bk), (4, .ref bt), (0, .ref b)] → W p l e room_1 s m #[Value.ref b] below meth c H locs cl sl (lw_Z below #[Value.ref b] s) (F0 m 468 ls []) from LP468 cn 0 0 (Nat.zero_add _) rfl ls _ _ hP hD hS (lv_sub hl [0, 1, 3, 2, 4, 7, 8, 9, 10, 11, 12] rfl)
    intro n
    induction n with
    | zero =>
      intro m9 u9 hm9 hu9 ls H locs hP hD hS hl
      refine lv_iload hx hb dL_law_468 (lv_at hl 0 rfl) ?_
      refine lv_aload hx hb dL_law_470 (lv_at hl 9 rfl) ?_
      refine lv_bipush (v := 7) hx hb dL_law_472 (by decide) ?_
      refine x_iald (v := (t 7)) X 2 7 hP rfl rfl (by decide) (Nat.le_of_ble_eq_true rfl) rfl dL_law_474 ?_
      refine lv_icmp_ge (tgt := 507) hx hb dL_law_475 (by decide) (fun c_2 => ?_) (fun q9 => absurd (show (t 7) ≤ (nI m9) from (by rw [h.t7]; exact nI_le (by omega) (by omega))) (show ¬ ((t 7) ≤ (nI m9)) from q9))
      have eu9 : u9 = thL k (nI j_2) cn 0 0 := hu9
      rcases l_hire h (w := j_3) (show j_2 < 1440 from by omega) (show j_3 ≤ 60 from by omega) with ⟨g1, g2, g3, ⟨S9, R9, g4⟩, g5⟩ | ⟨g1, g2, g3, g4⟩ | ⟨g1, g3, g4⟩
      · have e9 : u9 = 0 := eu9.trans g1
        subst e9
        refine lv_iload hx hb dL_law_507 (lv_at hl 1 rfl) ?_
        refine lv_if_ne (tgt := 526) hx hb dL_law_509 (by decide) (fun q9 => absurd (show (0 : Int32) = 0 from (by decide)) q9) (fun c_3 => ?_)
        refine lv_aload hx hb dL_law_512 (lv_at hl 9 rfl) ?_
        refine lv_bipush (v := 7) hx hb dL_law_514 (by decide) ?_
        refine x_iald (v := (t 7)) X 2 7 hP rfl rfl (by decide) (Nat.le_of_ble_eq_true rfl) rfl dL_law_516 ?_
        refine lv_bipush (v := 6) hx hb dL_law_517 (by decide) ?_
        refine lv_icmp_ge (tgt := 526) hx hb dL_law_519 (by decide) (fun q9 => absurd q9 (show ¬ 6 ≤ (t 7) from (by rw [h.t7]; exact nI_ge (b := 6) g2 (by decide)))) (fun c_4 => ?_)
        refine lv_iconst (v := 1) hx hb dL_law_522 (by decide) ?_
        refine lv_goto (tgt := 527) hx hb dL_law_523 (by decide) ?_
        refine lv_istore (lv' := [(14, .int 1), (13, .int 0), (11, .int (nI j_2)), (12, .int ((nI j_3) - 30)), (8, .int 1), (5, .int (nI ei)), (1, .ref (ad 8 0)), (2, .ref bf), (3, .ref bk), (4, .ref bt), (0, .ref b)]) hx hb dL_law_527 hl (by decide) rfl (fun ls hl => ?_)
        refine lv_iload hx hb dL_law_529 (lv_at hl 0 rfl) ?_
        refine lv_if_eq (tgt := 567) hx hb dL_law_531 (by decide) (fun q9 => absurd q9 (show ¬ (1 : Int32) = 0 from (by decide))) (fun c_5 => ?_)
        refine lv_aload_n hx hb dL_law_534 rfl (lv_at hl 8 rfl) ?_
        refine lv_iconst (v := 2) hx hb dL_law_535 (by decide) ?_
        refine lv_aload hx hb dL_law_536 (lv_at hl 9 rfl) ?_
        refine lv_bipush (v := 7) hx hb dL_law_538 (by decide) ?_
        refine x_iald (v := (t 7)) X 2 7 hP rfl rfl (by decide) (Nat.le_of_ble_eq_true rfl) rfl dL_law_540 ?_
        refine lv_imul hx hb dL_law_541 ?_
        refine lv_iload hx hb dL_law_542 (lv_at hl 2 rfl) ?_
        refine x_iast (ws2 := [(bf, .inl (g.2 0, 28, .inl f)), (bk, .inl (g.2 0, 12, .inl (upd k (2 * cn) (nI j_2)))), (bt, .inl (g.2 0, 8, .inl t))] ++ (CW g ad q)) X 1 (2 * cn) hP hD hS rfl (z_mul rfl h.t7) (by omega) (Nat.le_of_ble_eq_true rfl) rfl dL_law_544 (fun H locs hP hD hS => ?_)
        refine lv_aload_n hx hb dL_law_545 rfl (lv_at hl 8 rfl) ?_
        refine lv_iconst (v := 2) hx hb dL_law_546 (by decide) ?_
        refine lv_aload hx hb dL_law_547 (lv_at hl 9 rfl) ?_
        refine lv_bipush (v := 7) hx hb dL_law_549 (by decide) ?_
        refine x_iald (v := (t 7)) X 2 7 hP rfl rfl (by decide) (Nat.le_of_ble_eq_true rfl) rfl dL_law_551 ?_
        refine lv_imul hx hb dL_law_552 ?_
        refine lv_iconst (v := 1) hx hb dL_law_553 (by decide) ?_
        refine lv_iadd hx hb dL_law_554 ?_
        refine lv_iload hx hb dL_law_555 (lv_at hl 3 rfl) ?_
        refine x_iast (ws2 := [(bf, .inl (g.2 0, 28, .inl f)), (bk, .inl (g.2 0, 12, .inl (upd (upd k (2 * cn) (nI j_2)) ((2 * cn) + 1) ((nI j_3) - 30)))), (bt, .inl (g.2 0, 8, .inl t))] ++ (CW g ad q)) X 1 ((2 * cn) + 1) hP hD hS rfl (z_add (z_mul rfl h.t7) rfl) (by omega) (Nat.le_of_ble_eq_true rfl) rfl dL_law_557 (fun H locs hP hD hS => ?_)
        refine lv_aload hx hb dL_law_558 (lv_at hl 9 rfl) ?_
        refine lv_bipush (v := 7) hx hb dL_law_560 (by decide) ?_
        refine lv_dup2_11 hx hb dL_law_562 rfl rfl ?_
        refine x_iald (v := (t 7)) X 2 7 hP rfl rfl (by decide) (Nat.le_of_ble_eq_true rfl) rfl dL_law_563 ?_
        refine lv_iconst (v := 1) hx hb dL_law_564 (by decide) ?_
        refine lv_iadd hx hb dL_law_565 ?_
        refine x_iast (ws2 := [(bf, .inl (g.2 0, 28, .inl f)), (bk, .inl (g.2 0, 12, .inl (upd (upd k (2 * cn) (nI j_2)) ((2 * cn) + 1) ((nI j_3) - 30)))), (bt, .inl (g.2 0, 8, .inl (upd t 7 ((t 7) + 1))))] ++ (CW g ad q)) X 2 7 hP hD hS rfl rfl (by decide) (Nat.le_of_ble_eq_true rfl) rfl dL_law_566 (fun H locs hP hD hS => ?_)
        refine lv_aload_n hx hb dL_law_567 rfl (lv_at hl 6 rfl) ?_
        refine lv_iload hx hb dL_law_568 (lv_at hl 2 rfl) ?_
        refine lv_iload hx hb dL_law_570 (lv_at hl 3 rfl) ?_
        refine x_goI (wn := [(bf, .inl (g.2 0, 28, .inl f)), (bk, .inl (g.2 0, 12, .inl (upd (upd k (2 * cn) (nI j_2)) ((2 * cn) + 1) ((nI j_3) - 30)))), (bt, .inl (g.2 0, 8, .inl (upd t 7 ((t 7) + 1))))] ++ (CW g ad ((kHire q cn (nI j_2) ((nI j_3) - 30)).2))) (x_rV (As := [.int (nI j_2), .int ((nI j_3) - 30)]) X (c_X5_hire l g ad q (nI j_2) ((nI j_3) - 30) h.b hq cn h.cn6 h.x7 _) yf_X5_hire yi_X5_hire wM_L_79 ⟨Nat.le_of_ble_eq_true rfl, Nat.le_of_ble_eq_true rfl⟩ hP hD List.perm_append_comm 0 rfl rfl hl rfl rfl (Nat.le_of_ble_eq_true rfl) dL_law_572 ⟨show cl ≤ 600000 from by omega, show sl ≤ 7302250 from by omega⟩) hP hD hS hA List.perm_append_comm (List.Perm.refl _) (fun H locs hP hD hS => ?_)
        refine lv_iload hx hb dL_law_575 (lv_at hl 1 rfl) ?_
        refine lv_if_eq (tgt := 586) hx hb dL_law_577 (by decide) (fun c_6 => ?_) (fun q9 => absurd (show (0 : Int32) = 0 from (by decide)) (show ¬ ((0 : Int32) = 0) from q9))
        refine lv_iload hx hb dL_law_586 (lv_at hl 0 rfl) ?_
        refine lv_if_eq (tgt := 599) hx hb dL_law_588 (by decide) (fun q9 => absurd q9 (show ¬ (1 : Int32) = 0 from (by decide))) (fun c_7 => ?_)
        refine lv_aload hx hb dL_law_591 (lv_at hl 9 rfl) ?_
        refine lv_bipush (v := 7) hx hb dL_law_593 (by decide) ?_
        refine x_iald (v := ((upd t 7 ((t 7) + 1)) 7)) X 2 7 hP rfl rfl (by decide) (Nat.le_of_ble_eq_true rfl) rfl dL_law_595 ?_
        refine lv_goto (tgt := 602) hx hb dL_law_596 (by decide) ?_
        refine lv_icmp_ne (tgt := 609) hx hb dL_law_602 (by decide) (fun q9 => absurd (show ((kHire q cn (nI j_2) ((nI j_3) - 30)).1) = ((upd t 7 ((t 7) + 1)) 7) from (g3.trans (by rw [up_s, h.t7, nI_1]))) q9) (fun c_8 => ?_)
        refine lv_iconst (v := 1) hx hb dL_law_605 (by decide) ?_
        refine lv_goto (tgt := 610) hx hb dL_law_606 (by decide) ?_
        refine lv_istore (lv' := [(8, .int 1), (14, .int 1), (13, .int 0), (11, .int (nI j_2)), (12, .int ((nI j_3) - 30)), (5, .int (nI ei)), (1, .ref (ad 8 0)), (2, .ref bf), (3, .ref bk), (4, .ref bt), (0, .ref b)]) hx hb dL_law_610 hl (by decide) rfl (fun ls hl => ?_)
        refine lv_goto (tgt := 950) hx hb dL_law_612 (by decide) ?_
        exact nx _ _ _ _ _ _ _ _ g4 g5 (Nat.le_add_right _ _) ls _ _ hP hD hS (lv_sub hl [0, 5, 6, 7, 8, 9, 10] rfl)
      · have e9 : u9 = 0 := eu9.trans g1
        subst e9
        refine lv_iload hx hb dL_law_507 (lv_at hl 1 rfl) ?_
        refine lv_if_ne (tgt := 526) hx hb dL_law_509 (by decide) (fun q9 => absurd (show (0 : Int32) = 0 from (by decide)) q9) (fun c_9 => ?_)
        refine lv_aload hx hb dL_law_512 (lv_at hl 9 rfl) ?_
        refine lv_bipush (v := 7) hx hb dL_law_514 (by decide) ?_
        refine x_iald (v := (t 7)) X 2 7 hP rfl rfl (by decide) (Nat.le_of_ble_eq_true rfl) rfl dL_law_516 ?_
        refine lv_bipush (v := 6) hx hb dL_law_517 (by decide) ?_
        refine lv_icmp_ge (tgt := 526) hx hb dL_law_519 (by decide) (fun c_10 => ?_) (fun q9 => absurd (show 6 ≤ (t 7) from (by rw [h.t7, g2]; exact Int32.le_refl _)) (show ¬ (6 ≤ (t 7)) from q9))
        refine lv_iconst (v := 0) hx hb dL_law_526 (by decide) ?_
        refine lv_istore (lv' := [(14, .int 0), (13, .int 0), (11, .int (nI j_2)), (12, .int ((nI j_3) - 30)), (8, .int 1), (5, .int (nI ei)), (1, .ref (ad 8 0)), (2, .ref bf), (3, .ref bk), (4, .ref bt), (0, .ref b)]) hx hb dL_law_527 hl (by decide) rfl (fun ls hl => ?_)
        refine lv_iload hx hb dL_law_529 (lv_at hl 0 rfl) ?_
        refine lv_if_eq (tgt := 567) hx hb dL_law_531 (by decide) (fun c_11 => ?_) (fun q9 => absurd (show (0 : Int32) = 0 from (by decide)) (show ¬ ((0 : Int32) = 0) from q9))
        refine lv_aload_n hx hb dL_law_567 rfl (lv_at hl 6 rfl) ?_
        refine lv_iload hx hb dL_law_568 (lv_at hl 2 rfl) ?_
        refine lv_iload hx hb dL_law_570 (lv_at hl 3 rfl) ?_
        refine x_goI (wn := [(bf, .inl (g.2 0, 28, .inl f)), (bk, .inl (g.2 0, 12, .inl k)), (bt, .inl (g.2 0, 8, .inl t))] ++ (CW g ad ((kHire q cn (nI j_2) ((nI j_3) - 30)).2))) (x_rV (As := [.int (nI j_2), .int ((nI j_3) - 30)]) X (c_X5_hire l g ad q (nI j_2) ((nI j_3) - 30) h.b hq cn h.cn6 h.x7 _) yf_X5_hire yi_X5_hire wM_L_79 ⟨Nat.le_of_ble_eq_true rfl, Nat.le_of_ble_eq_true rfl⟩ hP hD List.perm_append_comm 0 rfl rfl hl rfl rfl (Nat.le_of_ble_eq_true rfl) dL_law_572 ⟨show cl ≤ 600000 from by omega, show sl ≤ 7302250 from by omega⟩) hP hD hS hA List.perm_append_comm (List.Perm.refl _) (fun H locs hP hD hS => ?_)
        refine lv_iload hx hb dL_law_575 (lv_at hl 1 rfl) ?_
        refine lv_if_eq (tgt := 586) hx hb dL_law_577 (by decide) (fun c_12 => ?_) (fun q9 => absurd (show (0 : Int32) = 0 from (by decide)) (show ¬ ((0 : Int32) = 0) from q9))
        refine lv_iload hx hb dL_law_586 (lv_at hl 0 rfl) ?_
        refine lv_if_eq (tgt := 599) hx hb dL_law_588 (by decide) (fun c_13 => ?_) (fun q9 => absurd (show (0 : Int32) = 0 from (by decide)) (show ¬ ((0 : Int32) = 0) from q9))
        refine lv_sipush (v := (-1004)) hx hb dL_law_599 (by decide) ?_
        refine lv_icmp_ne (tgt := 609) hx hb dL_law_602 (by decide) (fun q9 => absurd (show ((kHire q cn (nI j_2) ((nI j_3) - 30)).1) = (-1004) from g3) q9) (fun c_14 => ?_)
        refine lv_iconst (v := 1) hx hb dL_law_605 (by decide) ?_
        refine lv_goto (tgt := 610) hx hb dL_law_606 (by decide) ?_
        refine lv_istore (lv' := [(8, .int 1), (14, .int 0), (13, .int 0), (11, .int (nI j_2)), (12, .int ((nI j_3) - 30)), (5, .int (nI ei)), (1, .ref (ad 8 0)), (2, .ref bf), (3, .ref bk), (4, .ref bt), (0, .ref b)]) hx hb dL_law_610 hl (by decide) rfl (fun ls hl => ?_)
        refine lv_goto (tgt := 950) hx hb dL_law_612 (by decide) ?_
        have h9 : RQx tm cn ((kHire q cn (nI j_2) ((nI j_3) - 30)).2) t f k S R := by rw [g4]; exact h
        exact nx _ _ _ _ _ _ _ _ h9 (by rw [g4]; exact hq) (Nat.le_add_right _ _) ls _ _ hP hD hS (lv_sub hl [0, 5, 6, 7, 8, 9, 10] rfl)
      · have e9 : u9 = 1 := eu9.trans g1
        subst e9
        refine lv_iload hx hb dL_law_507 (lv_at hl 1 rfl) ?_
        refine lv_if_ne (tgt := 526) hx hb dL_law_509 (by decide) (fun c_15 => ?_) (fun q9 => absurd (show (1 : Int32) = 0 from q9) (show ¬ (1 : Int32) = 0 from (by decide)))
        refine lv_iconst (v := 0) hx hb dL_law_526 (by decide) ?_
        refine lv_istore (lv' := [(14, .int 0), (13, .int 1), (11, .int (nI j_2)), (12, .int ((nI j_3) - 30)), (8, .int 1), (5, .int (nI ei)), (1, .ref (ad 8 0)), (2, .ref bf), (3, .ref bk), (4, .ref bt), (0, .ref b)]) hx hb dL_law_527 hl (by decide) rfl (fun ls hl => ?_)
        refine lv_iload hx hb dL_law_529 (lv_at hl 0 rfl) ?_
        refine lv_if_eq (tgt := 567) hx hb dL_law_531 (by decide) (fun c_16 => ?_) (fun q9 => absurd (show (0 : Int32) = 0 from (by decide)) (show ¬ ((0 : Int32) = 0) from q9))
        refine lv_aload_n hx hb dL_law_567 rfl (lv_at hl 6 rfl) ?_
        refine lv_iload hx hb dL_law_568 (lv_at hl 2 rfl) ?_
        refine lv_iload hx hb dL_law_570 (lv_at hl 3 rfl) ?_
        refine x_goI (wn := [(bf, .inl (g.2 0, 28, .inl f)), (bk, .inl (g.2 0, 12, .inl k)), (bt, .inl (g.2 0, 8, .inl t))] ++ (CW g ad ((kHire q cn (nI j_2) ((nI j_3) - 30)).2))) (x_rV (As := [.int (nI j_2), .int ((nI j_3) - 30)]) X (c_X5_hire l g ad q (nI j_2) ((nI j_3) - 30) h.b hq cn h.cn6 h.x7 _) yf_X5_hire yi_X5_hire wM_L_79 ⟨Nat.le_of_ble_eq_true rfl, Nat.le_of_ble_eq_true rfl⟩ hP hD List.perm_append_comm 0 rfl rfl hl rfl rfl (Nat.le_of_ble_eq_true rfl) dL_law_572 ⟨show cl ≤ 600000 from by omega, show sl ≤ 7302250 from by omega⟩) hP hD hS hA List.perm_append_comm (List.Perm.refl _) (fun H locs hP hD hS => ?_)
        refine lv_iload hx hb dL_law_575 (lv_at hl 1 rfl) ?_
        refine lv_if_eq (tgt := 586) hx hb dL_law_577 (by decide) (fun q9 => absurd q9 (show ¬ (1 : Int32) = 0 from (by decide))) (fun c_17 => ?_)
        refine lv_sipush (v := (-1003)) hx hb dL_law_580 (by decide) ?_
        refine lv_goto (tgt := 602) hx hb dL_law_583 (by decide) ?_
        refine lv_icmp_ne (tgt := 609) hx hb dL_law_602 (by decide) (fun q9 => absurd (show ((kHire q cn (nI j_2) ((nI j_3) - 30)).1) = (-1003) from g3) q9) (fun c_18 => ?_)
        refine lv_iconst (v := 1) hx hb dL_law_605 (by decide) ?_
        refine lv_goto (tgt := 610) hx hb dL_law_606 (by decide) ?_
        refine lv_istore (lv' := [(8, .int 1), (14, .int 0), (13, .int 1), (11, .int (nI j_2)), (12, .int ((nI j_3) - 30)), (5, .int (nI ei)), (1, .ref (ad 8 0)), (2, .ref bf), (3, .ref bk), (4, .ref bt), (0, .ref b)]) hx hb dL_law_610 hl (by decide) rfl (fun ls hl => ?_)
        refine lv_goto (tgt := 950) hx hb dL_law_612 (by decide) ?_
        have h9 : RQx tm cn ((kHire q cn (nI j_2) ((nI j_3) - 30)).2) t f k S R := by rw [g4]; exact h
        exact nx _ _ _ _ _ _ _ _ h9 (by rw [g4]; exact hq) (Nat.le_add_right _ _) ls _ _ hP hD hS (lv_sub hl [0, 5, 6, 7, 8, 9, 10] rfl)
    | succ n ih =>
      intro m9 u9 hm9 hu9 ls H locs hP hD hS hl
      refine lv_iload hx hb dL_law_468 (lv_at hl 0 rfl) ?_
      refine lv_aload hx hb dL_law_470 (lv_at hl 9 rfl) ?_
      refine lv_bipush (v := 7) hx hb dL_law_472 (by decide) ?_
      refine x_iald (v := (t 7)) X 2 7 hP rfl rfl (by decide) (Nat.le_of_ble_eq_true rfl) rfl dL_law_474 ?_
      refine lv_icmp_ge (tgt := 507) hx hb dL_law_475 (by decide) (fun q9 => absurd q9 (show ¬ (t 7) ≤ (nI m9) from (by rw [h.t7]; exact nI_ge (by omega) (by omega)))) (fun c_19 => ?_)
      refine lv_iload hx hb dL_law_478 (lv_at hl 1 rfl) ?_
      refine lv_if_ne (tgt := 494) hx hb dL_law_480 (by decide) (fun (c_20 : ¬ u9 = 0) => ?_) (fun (c_20 : u9 = 0) => ?_)
      · refine lv_iconst (v := 1) hx hb dL_law_494 (by decide) ?_
        refine lv_goto (tgt := 499) hx hb dL_law_495 (by decide) ?_
        refine lv_istore (lv' := [(13, .int 1), (14, .int (nI m9)), (11, .int (nI j_2)), (12, .int ((nI j_3) - 30)), (8, .int 1), (5, .int (nI ei)), (1, .ref (ad 8 0)), (2, .ref bf), (3, .ref bk), (4, .ref bt), (0, .ref b)]) hx hb dL_law_499 hl (by decide) rfl (fun ls hl => ?_)
        refine lv_iinc (v := (nI (m9 + 1))) (lv' := [(14, .int (nI (m9 + 1))), (13, .int 1), (11, .int (nI j_2)), (12, .int ((nI j_3) - 30)), (8, .int 1), (5, .int (nI ei)), (1, .ref (ad 8 0)), (2, .ref bf), (3, .ref bk), (4, .ref bt), (0, .ref b)]) hx hb dL_law_501 hl (k := 1) rfl (nI_add _ 1) (by decide) rfl (fun ls hl => ?_)
        refine lv_goto (tgt := 468) hx hb dL_law_504 (by decide) ?_
        exact ih (m9 + 1) 1 (by omega) (by rw [← hu9]; exact (if_neg c_20).symm) ls _ _ hP hD hS (lv_sub hl [0, 1, 2, 3, 4, 5, 6, 7, 8, 9, 10] rfl)
      · refine lv_aload_n hx hb dL_law_483 rfl (lv_at hl 8 rfl) ?_
        refine lv_iconst (v := 2) hx hb dL_law_484 (by decide) ?_
        refine lv_iload hx hb dL_law_485 (lv_at hl 0 rfl) ?_
        refine lv_imul hx hb dL_law_487 ?_
        refine x_iald (v := (k (2 * m9))) X 1 (2 * m9) hP rfl (z_mul rfl rfl) (by omega) (Nat.le_of_ble_eq_true rfl) rfl dL_law_488 ?_
        refine lv_iload hx hb dL_law_489 (lv_at hl 2 rfl) ?_
        refine lv_icmp_ne (tgt := 498) hx hb dL_law_491 (by decide) (fun (c_21 : ¬ (k (2 * m9)) = (nI j_2)) => ?_) (fun (c_21 : (k (2 * m9)) = (nI j_2)) => ?_)
        · refine lv_iconst (v := 0) hx hb dL_law_498 (by decide) ?_
          refine lv_istore (lv' := [(13, .int 0), (14, .int (nI m9)), (11, .int (nI j_2)), (12, .int ((nI j_3) - 30)), (8, .int 1), (5, .int (nI ei)), (1, .ref (ad 8 0)), (2, .ref bf), (3, .ref bk), (4, .ref bt), (0, .ref b)]) hx hb dL_law_499 hl (by decide) rfl (fun ls hl => ?_)
          refine lv_iinc (v := (nI (m9 + 1))) (lv' := [(14, .int (nI (m9 + 1))), (13, .int 0), (11, .int (nI j_2)), (12, .int ((nI j_3) - 30)), (8, .int 1), (5, .int (nI ei)), (1, .ref (ad 8 0)), (2, .ref bf), (3, .ref bk), (4, .ref bt), (0, .ref b)]) hx hb dL_law_501 hl (k := 1) rfl (nI_add _ 1) (by decide) rfl (fun ls hl => ?_)
          refine lv_goto (tgt := 468) hx hb dL_law_504 (by decide) ?_
          exact ih (m9 + 1) 0 (by omega) (by rw [← hu9]; exact ((if_pos c_20).trans (if_neg c_21)).symm) ls _ _ hP hD hS (lv_sub hl [0, 1, 2, 3, 4, 5, 6, 7, 8, 9, 10] rfl)
        · refine lv_iconst (v := 1) hx hb dL_law_494 (by decide) ?_
          refine lv_goto (tgt := 499) hx hb dL_law_495 (by decide) ?_
          refine lv_istore (lv' := [(13, .int 1), (14, .int (nI m9)), (11, .int (nI j_2)), (12, .int ((nI j_3) - 30)), (8, .int 1), (5, .int (nI ei)), (1, .ref (ad 8 0)), (2, .ref bf), (3, .ref bk), (4, .ref bt), (0, .ref b)]) hx hb dL_law_499 hl (by decide) rfl (fun ls hl => ?_)
          refine lv_iinc (v := (nI (m9 + 1))) (lv' := [(14, .int (nI (m9 + 1))), (13, .int 1), (11, .int (nI j_2)), (12, .int ((nI j_3) - 30)), (8, .int 1), (5, .int (nI ei)), (1, .ref (ad 8 0)), (2, .ref bf), (3, .ref bk), (4, .ref bt), (0, .ref b)]) hx hb dL_law_501 hl (k := 1) rfl (nI_add _ 1) (by decide) rfl (fun ls hl => ?_)
          refine lv_goto (tgt := 468) hx hb dL_law_504 (by decide) ?_
          exact ih (m9 + 1) 1 (by omega) (by rw [← hu9]; exact ((if_pos c_20).trans (if_pos c_21)).symm) ls _ _ hP hD hS (lv_sub hl [0, 1, 2, 3, 4, 5, 6, 7, 8, 9, 10] rfl)
  · refine lv_sipush (v := 1440) hx hb dL_law_434 (by decide) ?_
    refine lv_goto (tgt := 442) hx hb dL_law_437 (by decide) ?_
    obtain ⟨j_4, hj_4, ej_4⟩ : ∃ j, j < 1440 ∧ lowF (hh >>> (7 &&& 31)) 1440 = nI j := low_n (hh >>> (7 &&& 31)) (n := 1440) (by decide) (by decide)
    refine x_goI (wn := [(bf, .inl (g.2 0, 28, .inl f)), (bk, .inl (g.2 0, 12, .inl k)), (bt, .inl (g.2 0, 8, .inl t))] ++ (CW g ad q)) (x_rS (As := [.int (hh >>> (7 &&& 31)), .int 1440]) X (c_L_lowj l g (hh >>> (7 &&& 31)) 1440 j_4 (by decide) ej_4 _) yf_L_low ys_L_low wM_L_33 ⟨Nat.le_of_ble_eq_true rfl, Nat.le_of_ble_eq_true rfl⟩ hP hD (p_none _) hl rfl rfl (Nat.le_of_ble_eq_true rfl) dL_law_442 ⟨show cl ≤ 600000 from by omega, show sl ≤ 7302250 from by omega⟩) hP hD hS hA (p_none _) (p_noneB _) (fun H locs hP hD hS => ?_)
    refine lv_istore (lv' := [(11, .int (nI j_4)), (8, .int 1), (7, .int (nI fi)), (6, .int hh), (5, .int (nI ei)), (1, .ref (ad 8 0)), (2, .ref bf), (3, .ref bk), (4, .ref bt), (0, .ref b)]) hx hb dL_law_445 hl (by decide) rfl (fun ls hl => ?_)
    refine lv_iload hx hb dL_law_447 (lv_at hl 3 rfl) ?_
    refine lv_bipush (v := 18) hx hb dL_law_449 (by decide) ?_
    refine lv_ishr hx hb dL_law_451 ?_
    refine lv_bipush (v := 61) hx hb dL_law_452 (by decide) ?_
    obtain ⟨j_5, hj_5, ej_5⟩ : ∃ j, j < 61 ∧ lowF (hh >>> (18 &&& 31)) 61 = nI j := low_n (hh >>> (18 &&& 31)) (n := 61) (by decide) (by decide)
    refine x_goI (wn := [(bf, .inl (g.2 0, 28, .inl f)), (bk, .inl (g.2 0, 12, .inl k)), (bt, .inl (g.2 0, 8, .inl t))] ++ (CW g ad q)) (x_rS (As := [.int (hh >>> (18 &&& 31)), .int 61]) X (c_L_lowj l g (hh >>> (18 &&& 31)) 61 j_5 (by decide) ej_5 _) yf_L_low ys_L_low wM_L_33 ⟨Nat.le_of_ble_eq_true rfl, Nat.le_of_ble_eq_true rfl⟩ hP hD (p_none _) hl rfl rfl (Nat.le_of_ble_eq_true rfl) dL_law_454 ⟨show cl ≤ 600000 from by omega, show sl ≤ 7302250 from by omega⟩) hP hD hS hA (p_none _) (p_noneB _) (fun H locs hP hD hS => ?_)
    refine lv_bipush (v := 30) hx hb dL_law_457 (by decide) ?_
    refine lv_isub hx hb dL_law_459 ?_
    refine lv_istore (lv' := [(12, .int ((nI j_5) - 30)), (11, .int (nI j_4)), (8, .int 1), (7, .int (nI fi)), (6, .int hh), (5, .int (nI ei)), (1, .ref (ad 8 0)), (2, .ref bf), (3, .ref bk), (4, .ref bt), (0, .ref b)]) hx hb dL_law_460 hl (by decide) rfl (fun ls hl => ?_)
    refine lv_iconst (v := 0) hx hb dL_law_462 (by decide) ?_
    refine lv_istore (lv' := [(13, .int 0), (12, .int ((nI j_5) - 30)), (11, .int (nI j_4)), (8, .int 1), (7, .int (nI fi)), (6, .int hh), (5, .int (nI ei)), (1, .ref (ad 8 0)), (2, .ref bf), (3, .ref bk), (4, .ref bt), (0, .ref b)]) hx hb dL_law_463 hl (by decide) rfl (fun ls hl => ?_)
    refine lv_iconst (v := 0) hx hb dL_law_465 (by decide) ?_
    refine lv_istore (lv' := [(14, .int 0), (13, .int 0), (12, .int ((nI j_5) - 30)), (11, .int (nI j_4)), (8, .int 1), (7, .int (nI fi)), (6, .int hh), (5, .int (nI ei)), (1, .ref (ad 8 0)), (2, .ref bf), (3, .ref bk), (4, .ref bt), (0, .ref b)]) hx hb dL_law_466 hl (by decide) rfl (fun ls hl => ?_)
    suffices LP468 : ∀ (n : Nat) (m9 : Nat) (u9 : Int32), m9 + n = cn → thL k (nI j_4) n m9 u9 = thL k (nI j_4) cn 0 0 → ∀ (ls : Array Slot) (H : Heap) (locs : List Loc), va_P g.1 vwCl ([(bf, .inl (g.2 0, 28, .inl f)), (bk, .inl (g.2 0, 12, .inl k)), (bt, .inl (g.2 0, 8, .inl t))] ++ (CW g ad q)) H → va_D A ([(bf, .inl (g.2 0, 28, .inl f)), (bk, .inl (g.2 0, 12, .inl k)), (bt, .inl (g.2 0, 8, .inl t))] ++ (CW g ad q)) → va_S A s.heap H locs → lv_has ls 22 [(14, .int (nI m9)), (13, .int u9), (11, .int (nI j_4)), (12, .int ((nI j_5) - 30)), (8, .int 1), (5, .int (nI ei)), (1, .ref (ad 8 0)), (2, .ref bf), (3, .ref bk), (4, .ref bt), (0, .ref b)] → W p l e room_1 s m #[Value.ref b] below meth c H locs cl sl (lw_Z below #[Value.ref b] s) (F0 m 468 ls []) from LP468 cn 0 0 (Nat.zero_add _) rfl ls _ _ hP hD hS (lv_sub hl [0, 1, 3, 2, 4, 7, 8, 9, 10, 11, 12] rfl)
    intro n
    induction n with
    | zero =>
      intro m9 u9 hm9 hu9 ls H locs hP hD hS hl
      refine lv_iload hx hb dL_law_468 (lv_at hl 0 rfl) ?_
      refine lv_aload hx hb dL_law_470 (lv_at hl 9 rfl) ?_
      refine lv_bipush (v := 7) hx hb dL_law_472 (by decide) ?_
      refine x_iald (v := (t 7)) X 2 7 hP rfl rfl (by decide) (Nat.le_of_ble_eq_true rfl) rfl dL_law_474 ?_
      refine lv_icmp_ge (tgt := 507) hx hb dL_law_475 (by decide) (fun c_22 => ?_) (fun q9 => absurd (show (t 7) ≤ (nI m9) from (by rw [h.t7]; exact nI_le (by omega) (by omega))) (show ¬ ((t 7) ≤ (nI m9)) from q9))
      have eu9 : u9 = thL k (nI j_4) cn 0 0 := hu9
      rcases l_hire h (w := j_5) (show j_4 < 1440 from by omega) (show j_5 ≤ 60 from by omega) with ⟨g1, g2, g3, ⟨S9, R9, g4⟩, g5⟩ | ⟨g1, g2, g3, g4⟩ | ⟨g1, g3, g4⟩
      · have e9 : u9 = 0 := eu9.trans g1
        subst e9
        refine lv_iload hx hb dL_law_507 (lv_at hl 1 rfl) ?_
        refine lv_if_ne (tgt := 526) hx hb dL_law_509 (by decide) (fun q9 => absurd (show (0 : Int32) = 0 from (by decide)) q9) (fun c_23 => ?_)
        refine lv_aload hx hb dL_law_512 (lv_at hl 9 rfl) ?_
        refine lv_bipush (v := 7) hx hb dL_law_514 (by decide) ?_
        refine x_iald (v := (t 7)) X 2 7 hP rfl rfl (by decide) (Nat.le_of_ble_eq_true rfl) rfl dL_law_516 ?_
        refine lv_bipush (v := 6) hx hb dL_law_517 (by decide) ?_
        refine lv_icmp_ge (tgt := 526) hx hb dL_law_519 (by decide) (fun q9 => absurd q9 (show ¬ 6 ≤ (t 7) from (by rw [h.t7]; exact nI_ge (b := 6) g2 (by decide)))) (fun c_24 => ?_)
        refine lv_iconst (v := 1) hx hb dL_law_522 (by decide) ?_
        refine lv_goto (tgt := 527) hx hb dL_law_523 (by decide) ?_
        refine lv_istore (lv' := [(14, .int 1), (13, .int 0), (11, .int (nI j_4)), (12, .int ((nI j_5) - 30)), (8, .int 1), (5, .int (nI ei)), (1, .ref (ad 8 0)), (2, .ref bf), (3, .ref bk), (4, .ref bt), (0, .ref b)]) hx hb dL_law_527 hl (by decide) rfl (fun ls hl => ?_)
        refine lv_iload hx hb dL_law_529 (lv_at hl 0 rfl) ?_
        refine lv_if_eq (tgt := 567) hx hb dL_law_531 (by decide) (fun q9 => absurd q9 (show ¬ (1 : Int32) = 0 from (by decide))) (fun c_25 => ?_)
        refine lv_aload_n hx hb dL_law_534 rfl (lv_at hl 8 rfl) ?_
        refine lv_iconst (v := 2) hx hb dL_law_535 (by decide) ?_
        refine lv_aload hx hb dL_law_536 (lv_at hl 9 rfl) ?_
        refine lv_bipush (v := 7) hx hb dL_law_538 (by decide) ?_
        refine x_iald (v := (t 7)) X 2 7 hP rfl rfl (by decide) (Nat.le_of_ble_eq_true rfl) rfl dL_law_540 ?_
        refine lv_imul hx hb dL_law_541 ?_
        refine lv_iload hx hb dL_law_542 (lv_at hl 2 rfl) ?_
        refine x_iast (ws2 := [(bf, .inl (g.2 0, 28, .inl f)), (bk, .inl (g.2 0, 12, .inl (upd k (2 * cn) (nI j_4)))), (bt, .inl (g.2 0, 8, .inl t))] ++ (CW g ad q)) X 1 (2 * cn) hP hD hS rfl (z_mul rfl h.t7) (by omega) (Nat.le_of_ble_eq_true rfl) rfl dL_law_544 (fun H locs hP hD hS => ?_)
        refine lv_aload_n hx hb dL_law_545 rfl (lv_at hl 8 rfl) ?_
        refine lv_iconst (v := 2) hx hb dL_law_546 (by decide) ?_
        refine lv_aload hx hb dL_law_547 (lv_at hl 9 rfl) ?_
        refine lv_bipush (v := 7) hx hb dL_law_549 (by decide) ?_
        refine x_iald (v := (t 7)) X 2 7 hP rfl rfl (by decide) (Nat.le_of_ble_eq_true rfl) rfl dL_law_551 ?_
        refine lv_imul hx hb dL_law_552 ?_
        refine lv_iconst (v := 1) hx hb dL_law_553 (by decide) ?_
        refine lv_iadd hx hb dL_law_554 ?_
        refine lv_iload hx hb dL_law_555 (lv_at hl 3 rfl) ?_
        refine x_iast (ws2 := [(bf, .inl (g.2 0, 28, .inl f)), (bk, .inl (g.2 0, 12, .inl (upd (upd k (2 * cn) (nI j_4)) ((2 * cn) + 1) ((nI j_5) - 30)))), (bt, .inl (g.2 0, 8, .inl t))] ++ (CW g ad q)) X 1 ((2 * cn) + 1) hP hD hS rfl (z_add (z_mul rfl h.t7) rfl) (by omega) (Nat.le_of_ble_eq_true rfl) rfl dL_law_557 (fun H locs hP hD hS => ?_)
        refine lv_aload hx hb dL_law_558 (lv_at hl 9 rfl) ?_
        refine lv_bipush (v := 7) hx hb dL_law_560 (by decide) ?_
        refine lv_dup2_11 hx hb dL_law_562 rfl rfl ?_
        refine x_iald (v := (t 7)) X 2 7 hP rfl rfl (by decide) (Nat.le_of_ble_eq_true rfl) rfl dL_law_563 ?_
        refine lv_iconst (v := 1) hx hb dL_law_564 (by decide) ?_
        refine lv_iadd hx hb dL_law_565 ?_
        refine x_iast (ws2 := [(bf, .inl (g.2 0, 28, .inl f)), (bk, .inl (g.2 0, 12, .inl (upd (upd k (2 * cn) (nI j_4)) ((2 * cn) + 1) ((nI j_5) - 30)))), (bt, .inl (g.2 0, 8, .inl (upd t 7 ((t 7) + 1))))] ++ (CW g ad q)) X 2 7 hP hD hS rfl rfl (by decide) (Nat.le_of_ble_eq_true rfl) rfl dL_law_566 (fun H locs hP hD hS => ?_)
        refine lv_aload_n hx hb dL_law_567 rfl (lv_at hl 6 rfl) ?_
        refine lv_iload hx hb dL_law_568 (lv_at hl 2 rfl) ?_
        refine lv_iload hx hb dL_law_570 (lv_at hl 3 rfl) ?_
        refine x_goI (wn := [(bf, .inl (g.2 0, 28, .inl f)), (bk, .inl (g.2 0, 12, .inl (upd (upd k (2 * cn) (nI j_4)) ((2 * cn) + 1) ((nI j_5) - 30)))), (bt, .inl (g.2 0, 8, .inl (upd t 7 ((t 7) + 1))))] ++ (CW g ad ((kHire q cn (nI j_4) ((nI j_5) - 30)).2))) (x_rV (As := [.int (nI j_4), .int ((nI j_5) - 30)]) X (c_X5_hire l g ad q (nI j_4) ((nI j_5) - 30) h.b hq cn h.cn6 h.x7 _) yf_X5_hire yi_X5_hire wM_L_79 ⟨Nat.le_of_ble_eq_true rfl, Nat.le_of_ble_eq_true rfl⟩ hP hD List.perm_append_comm 0 rfl rfl hl rfl rfl (Nat.le_of_ble_eq_true rfl) dL_law_572 ⟨show cl ≤ 600000 from by omega, show sl ≤ 7302250 from by omega⟩) hP hD hS hA List.perm_append_comm (List.Perm.refl _) (fun H locs hP hD hS => ?_)
        refine lv_iload hx hb dL_law_575 (lv_at hl 1 rfl) ?_
        refine lv_if_eq (tgt := 586) hx hb dL_law_577 (by decide) (fun c_26 => ?_) (fun q9 => absurd (show (0 : Int32) = 0 from (by decide)) (show ¬ ((0 : Int32) = 0) from q9))
        refine lv_iload hx hb dL_law_586 (lv_at hl 0 rfl) ?_
        refine lv_if_eq (tgt := 599) hx hb dL_law_588 (by decide) (fun q9 => absurd q9 (show ¬ (1 : Int32) = 0 from (by decide))) (fun c_27 => ?_)
        refine lv_aload hx hb dL_law_591 (lv_at hl 9 rfl) ?_
        refine lv_bipush (v := 7) hx hb dL_law_593 (by decide) ?_
        refine x_iald (v := ((upd t 7 ((t 7) + 1)) 7)) X 2 7 hP rfl rfl (by decide) (Nat.le_of_ble_eq_true rfl) rfl dL_law_595 ?_
        refine lv_goto (tgt := 602) hx hb dL_law_596 (by decide) ?_
        refine lv_icmp_ne (tgt := 609) hx hb dL_law_602 (by decide) (fun q9 => absurd (show ((kHire q cn (nI j_4) ((nI j_5) - 30)).1) = ((upd t 7 ((t 7) + 1)) 7) from (g3.trans (by rw [up_s, h.t7, nI_1]))) q9) (fun c_28 => ?_)
        refine lv_iconst (v := 1) hx hb dL_law_605 (by decide) ?_
        refine lv_goto (tgt := 610) hx hb dL_law_606 (by decide) ?_
        refine lv_istore (lv' := [(8, .int 1), (14, .int 1), (13, .int 0), (11, .int (nI j_4)), (12, .int ((nI j_5) - 30)), (5, .int (nI ei)), (1, .ref (ad 8 0)), (2, .ref bf), (3, .ref bk), (4, .ref bt), (0, .ref b)]) hx hb dL_law_610 hl (by decide) rfl (fun ls hl => ?_)
        refine lv_goto (tgt := 950) hx hb dL_law_612 (by decide) ?_
        exact nx _ _ _ _ _ _ _ _ g4 g5 (Nat.le_add_right _ _) ls _ _ hP hD hS (lv_sub hl [0, 5, 6, 7, 8, 9, 10] rfl)
      · have e9 : u9 = 0 := eu9.trans g1
        subst e9
        refine lv_iload hx hb dL_law_507 (lv_at hl 1 rfl) ?_
        refine lv_if_ne (tgt := 526) hx hb dL_law_509 (by decide) (fun q9 => absurd (show (0 : Int32) = 0 from (by decide)) q9) (fun c_29 => ?_)
        refine lv_aload hx hb dL_law_512 (lv_at hl 9 rfl) ?_
        refine lv_bipush (v := 7) hx hb dL_law_514 (by decide) ?_
        refine x_iald (v := (t 7)) X 2 7 hP rfl rfl (by decide) (Nat.le_of_ble_eq_true rfl) rfl dL_law_516 ?_
        refine lv_bipush (v := 6) hx hb dL_law_517 (by decide) ?_
        refine lv_icmp_ge (tgt := 526) hx hb dL_law_519 (by decide) (fun c_30 => ?_) (fun q9 => absurd (show 6 ≤ (t 7) from (by rw [h.t7, g2]; exact Int32.le_refl _)) (show ¬ (6 ≤ (t 7)) from q9))
        refine lv_iconst (v := 0) hx hb dL_law_526 (by decide) ?_
        refine lv_istore (lv' := [(14, .int 0), (13, .int 0), (11, .int (nI j_4)), (12, .int ((nI j_5) - 30)), (8, .int 1), (5, .int (nI ei)), (1, .ref (ad 8 0)), (2, .ref bf), (3, .ref bk), (4, .ref bt), (0, .ref b)]) hx hb dL_law_527 hl (by decide) rfl (fun ls hl => ?_)
        refine lv_iload hx hb dL_law_529 (lv_at hl 0 rfl) ?_
        refine lv_if_eq (tgt := 567) hx hb dL_law_531 (by decide) (fun c_31 => ?_) (fun q9 => absurd (show (0 : Int32) = 0 from (by decide)) (show ¬ ((0 : Int32) = 0) from q9))
        refine lv_aload_n hx hb dL_law_567 rfl (lv_at hl 6 rfl) ?_
        refine lv_iload hx hb dL_law_568 (lv_at hl 2 rfl) ?_
        refine lv_iload hx hb dL_law_570 (lv_at hl 3 rfl) ?_
        refine x_goI (wn := [(bf, .inl (g.2 0, 28, .inl f)), (bk, .inl (g.2 0, 12, .inl k)), (bt, .inl (g.2 0, 8, .inl t))] ++ (CW g ad ((kHire q cn (nI j_4) ((nI j_5) - 30)).2))) (x_rV (As := [.int (nI j_4), .int ((nI j_5) - 30)]) X (c_X5_hire l g ad q (nI j_4) ((nI j_5) - 30) h.b hq cn h.cn6 h.x7 _) yf_X5_hire yi_X5_hire wM_L_79 ⟨Nat.le_of_ble_eq_true rfl, Nat.le_of_ble_eq_true rfl⟩ hP hD List.perm_append_comm 0 rfl rfl hl rfl rfl (Nat.le_of_ble_eq_true rfl) dL_law_572 ⟨show cl ≤ 600000 from by omega, show sl ≤ 7302250 from by omega⟩) hP hD hS hA List.perm_append_comm (List.Perm.refl _) (fun H locs hP hD hS => ?_)
        refine lv_iload hx hb dL_law_575 (lv_at hl 1 rfl) ?_
        refine lv_if_eq (tgt := 586) hx hb dL_law_577 (by decide) (fun c_32 => ?_) (fun q9 => absurd (show (0 : Int32) = 0 from (by decide)) (show ¬ ((0 : Int32) = 0) from q9))
        refine lv_iload hx hb dL_law_586 (lv_at hl 0 rfl) ?_
        refine lv_if_eq (tgt := 599) hx hb dL_law_588 (by decide) (fun c_33 => ?_) (fun q9 => absurd (show (0 : Int32) = 0 from (by decide)) (show ¬ ((0 : Int32) = 0) from q9))
        refine lv_sipush (v := (-1004)) hx hb dL_law_599 (by decide) ?_
        refine lv_icmp_ne (tgt := 609) hx hb dL_law_602 (by decide) (fun q9 => absurd (show ((kHire q cn (nI j_4) ((nI j_5) - 30)).1) = (-1004) from g3) q9) (fun c_34 => ?_)
        refine lv_iconst (v := 1) hx hb dL_law_605 (by decide) ?_
        refine lv_goto (tgt := 610) hx hb dL_law_606 (by decide) ?_
        refine lv_istore (lv' := [(8, .int 1), (14, .int 0), (13, .int 0), (11, .int (nI j_4)), (12, .int ((nI j_5) - 30)), (5, .int (nI ei)), (1, .ref (ad 8 0)), (2, .ref bf), (3, .ref bk), (4, .ref bt), (0, .ref b)]) hx hb dL_law_610 hl (by decide) rfl (fun ls hl => ?_)
        refine lv_goto (tgt := 950) hx hb dL_law_612 (by decide) ?_
        have h9 : RQx tm cn ((kHire q cn (nI j_4) ((nI j_5) - 30)).2) t f k S R := by rw [g4]; exact h
        exact nx _ _ _ _ _ _ _ _ h9 (by rw [g4]; exact hq) (Nat.le_add_right _ _) ls _ _ hP hD hS (lv_sub hl [0, 5, 6, 7, 8, 9, 10] rfl)
      · have e9 : u9 = 1 := eu9.trans g1
        subst e9
        refine lv_iload hx hb dL_law_507 (lv_at hl 1 rfl) ?_
        refine lv_if_ne (tgt := 526) hx hb dL_law_509 (by decide) (fun c_35 => ?_) (fun q9 => absurd (show (1 : Int32) = 0 from q9) (show ¬ (1 : Int32) = 0 from (by decide)))
        refine lv_iconst (v := 0) hx hb dL_law_526 (by decide) ?_
        refine lv_istore (lv' := [(14, .int 0), (13, .int 1), (11, .int (nI j_4)), (12, .int ((nI j_5) - 30)), (8, .int 1), (5, .int (nI ei)), (1, .ref (ad 8 0)), (2, .ref bf), (3, .ref bk), (4, .ref bt), (0, .ref b)]) hx hb dL_law_527 hl (by decide) rfl (fun ls hl => ?_)
        refine lv_iload hx hb dL_law_529 (lv_at hl 0 rfl) ?_
        refine lv_if_eq (tgt := 567) hx hb dL_law_531 (by decide) (fun c_36 => ?_) (fun q9 => absurd (show (0 : Int32) = 0 from (by decide)) (show ¬ ((0 : Int32) = 0) from q9))
        refine lv_aload_n hx hb dL_law_567 rfl (lv_at hl 6 rfl) ?_
        refine lv_iload hx hb dL_law_568 (lv_at hl 2 rfl) ?_
        refine lv_iload hx hb dL_law_570 (lv_at hl 3 rfl) ?_
        refine x_goI (wn := [(bf, .inl (g.2 0, 28, .inl f)), (bk, .inl (g.2 0, 12, .inl k)), (bt, .inl (g.2 0, 8, .inl t))] ++ (CW g ad ((kHire q cn (nI j_4) ((nI j_5) - 30)).2))) (x_rV (As := [.int (nI j_4), .int ((nI j_5) - 30)]) X (c_X5_hire l g ad q (nI j_4) ((nI j_5) - 30) h.b hq cn h.cn6 h.x7 _) yf_X5_hire yi_X5_hire wM_L_79 ⟨Nat.le_of_ble_eq_true rfl, Nat.le_of_ble_eq_true rfl⟩ hP hD List.perm_append_comm 0 rfl rfl hl rfl rfl (Nat.le_of_ble_eq_true rfl) dL_law_572 ⟨show cl ≤ 600000 from by omega, show sl ≤ 7302250 from by omega⟩) hP hD hS hA List.perm_append_comm (List.Perm.refl _) (fun H locs hP hD hS => ?_)
        refine lv_iload hx hb dL_law_575 (lv_at hl 1 rfl) ?_
        refine lv_if_eq (tgt := 586) hx hb dL_law_577 (by decide) (fun q9 => absurd q9 (show ¬ (1 : Int32) = 0 from (by decide))) (fun c_37 => ?_)
        refine lv_sipush (v := (-1003)) hx hb dL_law_580 (by decide) ?_
        refine lv_goto (tgt := 602) hx hb dL_law_583 (by decide) ?_
        refine lv_icmp_ne (tgt := 609) hx hb dL_law_602 (by decide) (fun q9 => absurd (show ((kHire q cn (nI j_4) ((nI j_5) - 30)).1) = (-1003) from g3) q9) (fun c_38 => ?_)
        refine lv_iconst (v := 1) hx hb dL_law_605 (by decide) ?_
        refine lv_goto (tgt := 610) hx hb dL_law_606 (by decide) ?_
        refine lv_istore (lv' := [(8, .int 1), (14, .int 0), (13, .int 1), (11, .int (nI j_4)), (12, .int ((nI j_5) - 30)), (5, .int (nI ei)), (1, .ref (ad 8 0)), (2, .ref bf), (3, .ref bk), (4, .ref bt), (0, .ref b)]) hx hb dL_law_610 hl (by decide) rfl (fun ls hl => ?_)
        refine lv_goto (tgt := 950) hx hb dL_law_612 (by decide) ?_
        have h9 : RQx tm cn ((kHire q cn (nI j_4) ((nI j_5) - 30)).2) t f k S R := by rw [g4]; exact h
        exact nx _ _ _ _ _ _ _ _ h9 (by rw [g4]; exact hq) (Nat.le_add_right _ _) ls _ _ hP hD hS (lv_sub hl [0, 5, 6, 7, 8, 9, 10] rfl)
    | succ n ih =>
      intro m9 u9 hm9 hu9 ls H locs hP hD hS hl
      refine lv_iload hx hb dL_law_468 (lv_at hl 0 rfl) ?_
      refine lv_aload hx hb dL_law_470 (lv_at hl 9 rfl) ?_
      refine lv_bipush (v := 7) hx hb dL_law_472 (by decide) ?_
      refine x_iald (v := (t 7)) X 2 7 hP rfl rfl (by decide) (Nat.le_of_ble_eq_true rfl) rfl dL_law_474 ?_
      refine lv_icmp_ge (tgt := 507) hx hb dL_law_475 (by decide) (fun q9 => absurd q9 (show ¬ (t 7) ≤ (nI m9) from (by rw [h.t7]; exact nI_ge (by omega) (by omega)))) (fun c_39 => ?_)
      refine lv_iload hx hb dL_law_478 (lv_at hl 1 rfl) ?_
      refine lv_if_ne (tgt := 494) hx hb dL_law_480 (by decide) (fun (c_40 : ¬ u9 = 0) => ?_) (fun (c_40 : u9 = 0) => ?_)
      · refine lv_iconst (v := 1) hx hb dL_law_494 (by decide) ?_
        refine lv_goto (tgt := 499) hx hb dL_law_495 (by decide) ?_
        refine lv_istore (lv' := [(13, .int 1), (14, .int (nI m9)), (11, .int (nI j_4)), (12, .int ((nI j_5) - 30)), (8, .int 1), (5, .int (nI ei)), (1, .ref (ad 8 0)), (2, .ref bf), (3, .ref bk), (4, .ref bt), (0, .ref b)]) hx hb dL_law_499 hl (by decide) rfl (fun ls hl => ?_)
        refine lv_iinc (v := (nI (m9 + 1))) (lv' := [(14, .int (nI (m9 + 1))), (13, .int 1), (11, .int (nI j_4)), (12, .int ((nI j_5) - 30)), (8, .int 1), (5, .int (nI ei)), (1, .ref (ad 8 0)), (2, .ref bf), (3, .ref bk), (4, .ref bt), (0, .ref b)]) hx hb dL_law_501 hl (k := 1) rfl (nI_add _ 1) (by decide) rfl (fun ls hl => ?_)
        refine lv_goto (tgt := 468) hx hb dL_law_504 (by decide) ?_
        exact ih (m9 + 1) 1 (by omega) (by rw [← hu9]; exact (if_neg c_40).symm) ls _ _ hP hD hS (lv_sub hl [0, 1, 2, 3, 4, 5, 6, 7, 8, 9, 10] rfl)
      · refine lv_aload_n hx hb dL_law_483 rfl (lv_at hl 8 rfl) ?_
        refine lv_iconst (v := 2) hx hb dL_law_484 (by decide) ?_
        refine lv_iload hx hb dL_law_485 (lv_at hl 0 rfl) ?_
        refine lv_imul hx hb dL_law_487 ?_
        refine x_iald (v := (k (2 * m9))) X 1 (2 * m9) hP rfl (z_mul rfl rfl) (by omega) (Nat.le_of_ble_eq_true rfl) rfl dL_law_488 ?_
        refine lv_iload hx hb dL_law_489 (lv_at hl 2 rfl) ?_
        refine lv_icmp_ne (tgt := 498) hx hb dL_law_491 (by decide) (fun (c_41 : ¬ (k (2 * m9)) = (nI j_4)) => ?_) (fun (c_41 : (k (2 * m9)) = (nI j_4)) => ?_)
        · refine lv_iconst (v := 0) hx hb dL_law_498 (by decide) ?_
          refine lv_istore (lv' := [(13, .int 0), (14, .int (nI m9)), (11, .int (nI j_4)), (12, .int ((nI j_5) - 30)), (8, .int 1), (5, .int (nI ei)), (1, .ref (ad 8 0)), (2, .ref bf), (3, .ref bk), (4, .ref bt), (0, .ref b)]) hx hb dL_law_499 hl (by decide) rfl (fun ls hl => ?_)
          refine lv_iinc (v := (nI (m9 + 1))) (lv' := [(14, .int (nI (m9 + 1))), (13, .int 0), (11, .int (nI j_4)), (12, .int ((nI j_5) - 30)), (8, .int 1), (5, .int (nI ei)), (1, .ref (ad 8 0)), (2, .ref bf), (3, .ref bk), (4, .ref bt), (0, .ref b)]) hx hb dL_law_501 hl (k := 1) rfl (nI_add _ 1) (by decide) rfl (fun ls hl => ?_)
          refine lv_goto (tgt := 468) hx hb dL_law_504 (by decide) ?_
          exact ih (m9 + 1) 0 (by omega) (by rw [← hu9]; exact ((if_pos c_40).trans (if_neg c_41)).symm) ls _ _ hP hD hS (lv_sub hl [0, 1, 2, 3, 4, 5, 6, 7, 8, 9, 10] rfl)
        · refine lv_iconst (v := 1) hx hb dL_law_494 (by decide) ?_
          refine lv_goto (tgt := 499) hx hb dL_law_495 (by decide) ?_
          refine lv_istore (lv' := [(13, .int 1), (14, .int (nI m9)), (11, .int (nI j_4)), (12, .int ((nI j_5) - 30)), (8, .int 1), (5, .int (nI ei)), (1, .ref (ad 8 0)), (2, .ref bf), (3, .ref bk), (4, .ref bt), (0, .ref b)]) hx hb dL_law_499 hl (by decide) rfl (fun ls hl => ?_)
          refine lv_iinc (v := (nI (m9 + 1))) (lv' := [(14, .int (nI (m9 + 1))), (13, .int 1), (11, .int (nI j_4)), (12, .int ((nI j_5) - 30)), (8, .int 1), (5, .int (nI ei)), (1, .ref (ad 8 0)), (2, .ref bf), (3, .ref bk), (4, .ref bt), (0, .ref b)]) hx hb dL_law_501 hl (k := 1) rfl (nI_add _ 1) (by decide) rfl (fun ls hl => ?_)
          refine lv_goto (tgt := 468) hx hb dL_law_504 (by decide) ?_
          exact ih (m9 + 1) 1 (by omega) (by rw [← hu9]; exact ((if_pos c_40).trans (if_pos c_41)).symm) ls _ _ hP hD hS (lv_sub hl [0, 1, 2, 3, 4, 5, 6, 7, 8, 9, 10] rfl)

set_option maxHeartbeats 4000000 in
set_option maxRecDepth 100000 in
theorem lw_c6 {p : Program} {l : Launch} {e : Env} {s : State} {m : MethodId} {below : List Frame} {meth : Method} {c : Code} {g : wG} {tt : Nat → Nat} {b L : Nat} {xs : Nat → Int32} {A : Nat → Prop} {ad : Nat → Nat → Nat} {bf bk bt cl sl : Nat} (Z : LwX p s m c g tt b L xs A) (hcl : cl + 10 ≤ 600000) (hsl : sl + 180 ≤ 7302250) {tm cn : Nat} {q : CS} {t f k : RI} {S R : Nat → Nat} (h : RQx tm cn q t f k S R) (hq : cL q < 5) (ht9 : tm + 800 ≤ 999999) {ei fi : Nat} {hh : Int32} (hfi : fi < 4) (nx : ∀ (tm' cn' : Nat) (q' : CS) (t' f' k' : RI) (S' R' : Nat → Nat), RQx tm' cn' q' t' f' k' S' R' → cL q' < 5 → tm' ≤ tm + 800 → LwG p l e s m below meth c g b A [(8, .int 1), (5, .int (nI ei)), (1, .ref (ad 8 0)), (2, .ref bf), (3, .ref bk), (4, .ref bt), (0, .ref b)] 950 cl sl (LW g bf bk bt f' k' t' ++ CW g ad q')) : LwG p l e s m below meth c g b A [(8, .int 1), (7, .int (nI fi)), (6, .int hh), (5, .int (nI ei)), (1, .ref (ad 8 0)), (2, .ref bf), (3, .ref bk), (4, .ref bt), (0, .ref b)] 615 cl sl (LW g bf bk bt f k t ++ CW g ad q) := by
  obtain ⟨X, hZ, hT, hL, hA⟩ := Z
  obtain ⟨⟨hx, hb, hml, hown, hts⟩, hK, hN⟩ := id X
  have hc6 := h.cn6
  intro ls H locs hP hD hS hl
  have hP : va_P g.1 vwCl ([(bf, .inl (g.2 0, 28, .inl f)), (bk, .inl (g.2 0, 12, .inl k)), (bt, .inl (g.2 0, 8, .inl t))] ++ (CW g ad q)) H := hP
  have hD : va_D A ([(bf, .inl (g.2 0, 28, .inl f)), (bk, .inl (g.2 0, 12, .inl k)), (bt, .inl (g.2 0, 8, .inl t))] ++ (CW g ad q)) := hD
  refine lv_iload hx hb dL_law_615 (lv_at hl 2 rfl) ?_
  refine lv_bipush (v := 7) hx hb dL_law_617 (by decide) ?_
  refine lv_ishr hx hb dL_law_619 ?_
  refine lv_bipush (v := 6) hx hb dL_law_620 (by decide) ?_
  obtain ⟨j_1, hj_1, ej_1⟩ : ∃ j, j < 6 ∧ lowF (hh >>> (7 &&& 31)) 6 = nI j := low_n (hh >>> (7 &&& 31)) (n := 6) (by decide) (by decide)
  refine x_goI (wn := [(bf, .inl (g.2 0, 28, .inl f)), (bk, .inl (g.2 0, 12, .inl k)), (bt, .inl (g.2 0, 8, .inl t))] ++ (CW g ad q)) (x_rS (As := [.int (hh >>> (7 &&& 31)), .int 6]) X (c_L_lowj l g (hh >>> (7 &&& 31)) 6 j_1 (by decide) ej_1 _) yf_L_low ys_L_low wM_L_33 ⟨Nat.le_of_ble_eq_true rfl, Nat.le_of_ble_eq_true rfl⟩ hP hD (p_none _) hl rfl rfl (Nat.le_of_ble_eq_true rfl) dL_law_622 ⟨show cl ≤ 600000 from by omega, show sl ≤ 7302250 from by omega⟩) hP hD hS hA (p_none _) (p_noneB _) (fun H locs hP hD hS => ?_)
  refine lv_istore (lv' := [(15, .int (nI j_1)), (8, .int 1), (7, .int (nI fi)), (6, .int hh), (5, .int (nI ei)), (1, .ref (ad 8 0)), (2, .ref bf), (3, .ref bk), (4, .ref bt), (0, .ref b)]) hx hb dL_law_625 hl (by decide) rfl (fun ls hl => ?_)
  refine lv_iload hx hb dL_law_627 (lv_at hl 0 rfl) ?_
  refine lv_aload hx hb dL_law_629 (lv_at hl 8 rfl) ?_
  refine lv_bipush (v := 7) hx hb dL_law_631 (by decide) ?_
  refine x_iald (v := (t 7)) X 2 7 hP rfl rfl (by decide) (Nat.le_of_ble_eq_true rfl) rfl dL_law_633 ?_
  refine lv_icmp_ge (tgt := 950) hx hb dL_law_634 (by decide) (fun (c_1 : (t 7) ≤ (nI j_1)) => ?_) (fun (c_1 : ¬ (t 7) ≤ (nI j_1)) => ?_)
  · exact nx _ _ _ _ _ _ _ _ h hq (Nat.le_add_right _ _) ls _ _ hP hD hS (lv_sub hl [1, 4, 5, 6, 7, 8, 9] rfl)
  · have hb9 : j_1 < cn := by
      rcases Nat.lt_or_ge j_1 cn with z | z
      · exact z
      · rw [h.t7] at c_1; exact absurd (nI_le z (by omega)) c_1
    refine lv_aload_n hx hb dL_law_637 rfl (lv_at hl 5 rfl) ?_
    refine lv_aload_n hx hb dL_law_638 rfl (lv_at hl 7 rfl) ?_
    refine lv_iconst (v := 2) hx hb dL_law_639 (by decide) ?_
    refine lv_iload hx hb dL_law_640 (lv_at hl 0 rfl) ?_
    refine lv_imul hx hb dL_law_642 ?_
    refine x_iald (v := (k (2 * j_1))) X 1 (2 * j_1) hP rfl (z_mul rfl rfl) (by omega) (Nat.le_of_ble_eq_true rfl) rfl dL_law_643 ?_
    refine x_goI (wn := [(bf, .inl (g.2 0, 28, .inl f)), (bk, .inl (g.2 0, 12, .inl k)), (bt, .inl (g.2 0, 8, .inl t))] ++ (CW g ad ((kDismiss q cn (k (2 * j_1))).2))) (x_rV (As := [.int (k (2 * j_1))]) X (c_X5_dismiss l g ad q (k (2 * j_1)) h.b hq cn h.cn6 h.x7 _) yf_X5_dismiss yi_X5_dismiss wM_L_82 ⟨Nat.le_of_ble_eq_true rfl, Nat.le_of_ble_eq_true rfl⟩ hP hD List.perm_append_comm 0 rfl rfl hl rfl rfl (Nat.le_of_ble_eq_true rfl) dL_law_644 ⟨show cl ≤ 600000 from by omega, show sl ≤ 7302250 from by omega⟩) hP hD hS hA List.perm_append_comm (List.Perm.refl _) (fun H locs hP hD hS => ?_)
    refine lv_aload_n hx hb dL_law_647 rfl (lv_at hl 7 rfl) ?_
    refine lv_iconst (v := 2) hx hb dL_law_648 (by decide) ?_
    refine lv_iload hx hb dL_law_649 (lv_at hl 0 rfl) ?_
    refine lv_imul hx hb dL_law_651 ?_
    refine lv_iconst (v := 1) hx hb dL_law_652 (by decide) ?_
    refine lv_iadd hx hb dL_law_653 ?_
    refine x_iald (v := (k ((2 * j_1) + 1))) X 1 ((2 * j_1) + 1) hP rfl (z_add (z_mul rfl rfl) rfl) (by omega) (Nat.le_of_ble_eq_true rfl) rfl dL_law_654 ?_
    refine lv_icmp_ne (tgt := 662) hx hb dL_law_655 (by decide) (fun q9 => absurd (show ((kDismiss q cn (k (2 * j_1))).1) = (k ((2 * j_1) + 1)) from (l_dismiss h hb9 (y := fun i => if 2 * j_1 ≤ i ∧ i < 10 then k (i + 2) else k i) (fun i hi => rfl)).1) q9) (fun c_2 => ?_)
    refine lv_iconst (v := 1) hx hb dL_law_658 (by decide) ?_
    refine lv_goto (tgt := 663) hx hb dL_law_659 (by decide) ?_
    refine lv_istore (lv' := [(8, .int 1), (15, .int (nI j_1)), (7, .int (nI fi)), (6, .int hh), (5, .int (nI ei)), (1, .ref (ad 8 0)), (2, .ref bf), (3, .ref bk), (4, .ref bt), (0, .ref b)]) hx hb dL_law_663 hl (by decide) rfl (fun ls hl => ?_)
    refine lv_iconst (v := 2) hx hb dL_law_665 (by decide) ?_
    refine lv_iload hx hb dL_law_666 (lv_at hl 1 rfl) ?_
    refine lv_imul hx hb dL_law_668 ?_
    refine W.eq (g2 := F0 m 669 ls [.int (nI (2 * j_1))]) (by rw [show (2 : Int32) * nI j_1 = nI (2 * j_1) from z_mul rfl rfl]) ?_
    refine lv_istore (lv' := [(16, .int (nI (2 * j_1))), (8, .int 1), (15, .int (nI j_1)), (7, .int (nI fi)), (6, .int hh), (5, .int (nI ei)), (1, .ref (ad 8 0)), (2, .ref bf), (3, .ref bk), (4, .ref bt), (0, .ref b)]) hx hb dL_law_669 hl (by decide) rfl (fun ls hl => ?_)
    suffices LP671 : ∀ (n : Nat) (m9 : Nat) (y : Nat → Int32), m9 + n = 10 → 2 * j_1 ≤ m9 → DisI k (2 * j_1) m9 y → ∀ (ls : Array Slot) (H : Heap) (locs : List Loc), va_P g.1 vwCl ([(bf, .inl (g.2 0, 28, .inl f)), (bk, .inl (g.2 0, 12, .inl y)), (bt, .inl (g.2 0, 8, .inl t))] ++ (CW g ad ((kDismiss q cn (k (2 * j_1))).2))) H → va_D A ([(bf, .inl (g.2 0, 28, .inl f)), (bk, .inl (g.2 0, 12, .inl y)), (bt, .inl (g.2 0, 8, .inl t))] ++ (CW g ad ((kDismiss q cn (k (2 * j_1))).2))) → va_S A s.heap H locs → lv_has ls 22 [(16, .int (nI m9)), (15, .int (nI j_1)), (8, .int 1), (5, .int (nI ei)), (1, .ref (ad 8 0)), (2, .ref bf), (3, .ref bk), (4, .ref bt), (0, .ref b)] → W p l e room_1 s m #[Value.ref b] below meth c H locs cl sl (lw_Z below #[Value.ref b] s) (F0 m 671 ls []) from LP671 (10 - 2 * j_1) (2 * j_1) k (by omega) (Nat.le_refl _) (dis_0 _ _) ls _ _ hP hD hS (lv_sub hl [0, 2, 1, 5, 6, 7, 8, 9, 10] rfl)
    intro n
    induction n with
    | zero =>
      intro m9 y hm9 hg9 hy9 ls H locs hP hD hS hl
      refine lv_iload hx hb dL_law_671 (lv_at hl 0 rfl) ?_
      refine lv_bipush (v := 10) hx hb dL_law_673 (by decide) ?_
      refine lv_icmp_ge (tgt := 694) hx hb dL_law_675 (by decide) (fun c_3 => ?_) (fun q9 => absurd (show 10 ≤ (nI m9) from (nI_le (a := 10) (by omega) (by omega))) (show ¬ (10 ≤ (nI m9)) from q9))
      refine lv_aload hx hb dL_law_694 (lv_at hl 7 rfl) ?_
      refine lv_bipush (v := 7) hx hb dL_law_696 (by decide) ?_
      refine lv_dup2_11 hx hb dL_law_698 rfl rfl ?_
      refine x_iald (v := (t 7)) X 2 7 hP rfl rfl (by decide) (Nat.le_of_ble_eq_true rfl) rfl dL_law_699 ?_
      refine lv_iconst (v := 1) hx hb dL_law_700 (by decide) ?_
      refine lv_isub hx hb dL_law_701 ?_
      refine x_iast (ws2 := [(bf, .inl (g.2 0, 28, .inl f)), (bk, .inl (g.2 0, 12, .inl y)), (bt, .inl (g.2 0, 8, .inl (upd t 7 ((t 7) - 1))))] ++ (CW g ad ((kDismiss q cn (k (2 * j_1))).2))) X 2 7 hP hD hS rfl rfl (by decide) (Nat.le_of_ble_eq_true rfl) rfl dL_law_702 (fun H locs hP hD hS => ?_)
      refine lv_goto (tgt := 950) hx hb dL_law_703 (by decide) ?_
      obtain ⟨-, ⟨S9, R9, g4⟩, g5⟩ := l_dismiss h hb9 (dis_end hy9 (by omega))
      exact nx _ _ _ _ _ _ _ _ g4 g5 (Nat.le_add_right _ _) ls _ _ hP hD hS (lv_sub hl [2, 3, 4, 5, 6, 7, 8] rfl)
    | succ n ih =>
      intro m9 y hm9 hg9 hy9 ls H locs hP hD hS hl
      refine lv_iload hx hb dL_law_671 (lv_at hl 0 rfl) ?_
      refine lv_bipush (v := 10) hx hb dL_law_673 (by decide) ?_
      refine lv_icmp_ge (tgt := 694) hx hb dL_law_675 (by decide) (fun q9 => absurd q9 (show ¬ 10 ≤ (nI m9) from (nI_ge (b := 10) (by omega) (by omega)))) (fun c_4 => ?_)
      refine lv_aload_n hx hb dL_law_678 rfl (lv_at hl 6 rfl) ?_
      refine lv_iload hx hb dL_law_679 (lv_at hl 0 rfl) ?_
      refine lv_aload_n hx hb dL_law_681 rfl (lv_at hl 6 rfl) ?_
      refine lv_iload hx hb dL_law_682 (lv_at hl 0 rfl) ?_
      refine lv_iconst (v := 2) hx hb dL_law_684 (by decide) ?_
      refine lv_iadd hx hb dL_law_685 ?_
      refine x_iald (v := (y (m9 + 2))) X 1 (m9 + 2) hP rfl (z_add rfl rfl) (by omega) (Nat.le_of_ble_eq_true rfl) rfl dL_law_686 ?_
      refine x_iast (ws2 := [(bf, .inl (g.2 0, 28, .inl f)), (bk, .inl (g.2 0, 12, .inl (upd y m9 (y (m9 + 2))))), (bt, .inl (g.2 0, 8, .inl t))] ++ (CW g ad ((kDismiss q cn (k (2 * j_1))).2))) X 1 m9 hP hD hS rfl rfl (by omega) (Nat.le_of_ble_eq_true rfl) rfl dL_law_687 (fun H locs hP hD hS => ?_)
      refine lv_iinc (v := (nI (m9 + 1))) (lv' := [(16, .int (nI (m9 + 1))), (15, .int (nI j_1)), (8, .int 1), (5, .int (nI ei)), (1, .ref (ad 8 0)), (2, .ref bf), (3, .ref bk), (4, .ref bt), (0, .ref b)]) hx hb dL_law_688 hl (k := 0) rfl (nI_add _ 1) (by decide) rfl (fun ls hl => ?_)
      refine lv_goto (tgt := 671) hx hb dL_law_691 (by decide) ?_
      exact ih (m9 + 1) (upd y m9 (y (m9 + 2))) (by omega) (by omega) (dis_step hy9 (by omega)) ls _ _ hP hD hS (lv_sub hl [0, 1, 2, 3, 4, 5, 6, 7, 8] rfl)

set_option maxHeartbeats 4000000 in
set_option maxRecDepth 100000 in
theorem lw_c7 {p : Program} {l : Launch} {e : Env} {s : State} {m : MethodId} {below : List Frame} {meth : Method} {c : Code} {g : wG} {tt : Nat → Nat} {b L : Nat} {xs : Nat → Int32} {A : Nat → Prop} {ad : Nat → Nat → Nat} {bf bk bt cl sl : Nat} (Z : LwX p s m c g tt b L xs A) (hcl : cl + 10 ≤ 600000) (hsl : sl + 180 ≤ 7302250) {tm cn : Nat} {q : CS} {t f k : RI} {S R : Nat → Nat} (h : RQx tm cn q t f k S R) (hq : cL q < 5) (ht9 : tm + 800 ≤ 999999) {ei fi : Nat} {hh : Int32} (hfi : fi < 4) (nx : ∀ (tm' cn' : Nat) (q' : CS) (t' f' k' : RI) (S' R' : Nat → Nat), RQx tm' cn' q' t' f' k' S' R' → cL q' < 5 → tm' ≤ tm + 800 → LwG p l e s m below meth c g b A [(8, .int 1), (5, .int (nI ei)), (1, .ref (ad 8 0)), (2, .ref bf), (3, .ref bk), (4, .ref bt), (0, .ref b)] 950 cl sl (LW g bf bk bt f' k' t' ++ CW g ad q')) : LwG p l e s m below meth c g b A [(8, .int 1), (7, .int (nI fi)), (6, .int hh), (5, .int (nI ei)), (1, .ref (ad 8 0)), (2, .ref bf), (3, .ref bk), (4, .ref bt), (0, .ref b)] 706 cl sl (LW g bf bk bt f k t ++ CW g ad q) := by
  obtain ⟨X, hZ, hT, hL, hA⟩ := Z
  obtain ⟨⟨hx, hb, hml, hown, hts⟩, hK, hN⟩ := id X
  have hc6 := h.cn6
  intro ls H locs hP hD hS hl
  have hP : va_P g.1 vwCl ([(bf, .inl (g.2 0, 28, .inl f)), (bk, .inl (g.2 0, 12, .inl k)), (bt, .inl (g.2 0, 8, .inl t))] ++ (CW g ad q)) H := hP
  have hD : va_D A ([(bf, .inl (g.2 0, 28, .inl f)), (bk, .inl (g.2 0, 12, .inl k)), (bt, .inl (g.2 0, 8, .inl t))] ++ (CW g ad q)) := hD
  by_cases hc0 : cn = 0
  · subst hc0
    refine lv_aload hx hb dL_law_706 (lv_at hl 7 rfl) ?_
    refine lv_bipush (v := 7) hx hb dL_law_708 (by decide) ?_
    refine x_iald (v := (t 7)) X 2 7 hP rfl rfl (by decide) (Nat.le_of_ble_eq_true rfl) rfl dL_law_710 ?_
    refine lv_if_ne (tgt := 720) hx hb dL_law_711 (by decide) (fun q9 => absurd (show (t 7) = 0 from (show t 7 = 0 from h.t7)) q9) (fun c_1 => ?_)
    refine lv_sipush (v := (-1003)) hx hb dL_law_714 (by decide) ?_
    refine lv_goto (tgt := 727) hx hb dL_law_717 (by decide) ?_
    refine lv_istore (lv' := [(16, .int (-1003)), (8, .int 1), (7, .int (nI fi)), (6, .int hh), (5, .int (nI ei)), (1, .ref (ad 8 0)), (2, .ref bf), (3, .ref bk), (4, .ref bt), (0, .ref b)]) hx hb dL_law_727 hl (by decide) rfl (fun ls hl => ?_)
    refine lv_aload_n hx hb dL_law_729 rfl (lv_at hl 5 rfl) ?_
    refine x_goI (wn := [(bf, .inl (g.2 0, 28, .inl f)), (bk, .inl (g.2 0, 12, .inl k)), (bt, .inl (g.2 0, 8, .inl t))] ++ (CW g ad ((kReset q 0).2))) (x_rV (As := []) X (c_X5_reset l g ad q h.b hq 0 h.cn6 h.x7 _) yf_X5_reset yi_X5_reset wM_L_85 ⟨Nat.le_of_ble_eq_true rfl, Nat.le_of_ble_eq_true rfl⟩ hP hD List.perm_append_comm 0 rfl rfl hl rfl rfl (Nat.le_of_ble_eq_true rfl) dL_law_730 ⟨show cl ≤ 600000 from by omega, show sl ≤ 7302250 from by omega⟩) hP hD hS hA List.perm_append_comm (List.Perm.refl _) (fun H locs hP hD hS => ?_)
    refine lv_iload hx hb dL_law_733 (lv_at hl 0 rfl) ?_
    refine lv_icmp_ne (tgt := 742) hx hb dL_law_735 (by decide) (fun q9 => absurd (show ((kReset q 0).1) = (-1003) from (l_reset0 h).1) q9) (fun c_2 => ?_)
    refine lv_iconst (v := 1) hx hb dL_law_738 (by decide) ?_
    refine lv_goto (tgt := 743) hx hb dL_law_739 (by decide) ?_
    refine lv_istore (lv' := [(8, .int 1), (16, .int (-1003)), (7, .int (nI fi)), (6, .int hh), (5, .int (nI ei)), (1, .ref (ad 8 0)), (2, .ref bf), (3, .ref bk), (4, .ref bt), (0, .ref b)]) hx hb dL_law_743 hl (by decide) rfl (fun ls hl => ?_)
    refine lv_goto (tgt := 950) hx hb dL_law_745 (by decide) ?_
    have h9 : RQx tm 0 ((kReset q 0).2) t f k S R := by rw [(l_reset0 h).2]; exact h
    exact nx _ _ _ _ _ _ _ _ h9 (by rw [(l_reset0 h).2]; exact hq) (Nat.le_add_right _ _) ls _ _ hP hD hS (lv_sub hl [0, 4, 5, 6, 7, 8, 9] rfl)
  · obtain ⟨w9, w1, w2, w3, w4⟩ := l_reset h (by omega) (by omega)
    refine lv_aload hx hb dL_law_706 (lv_at hl 7 rfl) ?_
    refine lv_bipush (v := 7) hx hb dL_law_708 (by decide) ?_
    refine x_iald (v := (t 7)) X 2 7 hP rfl rfl (by decide) (Nat.le_of_ble_eq_true rfl) rfl dL_law_710 ?_
    refine lv_if_ne (tgt := 720) hx hb dL_law_711 (by decide) (fun c_3 => ?_) (fun q9 => absurd (show (t 7) = 0 from q9) (show ¬ (t 7) = 0 from (by rw [h.t7]; exact nI_ne0 (by omega) (by omega))))
    refine lv_aload_n hx hb dL_law_720 rfl (lv_at hl 5 rfl) ?_
    refine lv_aload_n hx hb dL_law_721 rfl (lv_at hl 6 rfl) ?_
    refine lv_aload hx hb dL_law_722 (lv_at hl 7 rfl) ?_
    refine x_goI (wn := [(bf, .inl (g.2 0, 28, .inl (lrF f k t w9))), (bk, .inl (g.2 0, 12, .inl k)), (bt, .inl (g.2 0, 8, .inl (lrT f k t w9)))] ++ (CW g ad q)) (x_rS (As := [.ref bf, .ref bk, .ref bt]) X (c_L_reset l g bf bk bt cn w9 f k t w1 _) yf_L_reset ys_L_reset wM_L_24 ⟨Nat.le_of_ble_eq_true rfl, Nat.le_of_ble_eq_true rfl⟩ hP hD (List.Perm.refl _) hl rfl rfl (Nat.le_of_ble_eq_true rfl) dL_law_724 ⟨show cl ≤ 600000 from by omega, show sl ≤ 7302250 from by omega⟩) hP hD hS hA (List.Perm.refl _) List.perm_append_comm (fun H locs hP hD hS => ?_)
    refine lv_istore (lv' := [(16, .int (lrQ f k t w9)), (8, .int 1), (7, .int (nI fi)), (6, .int hh), (5, .int (nI ei)), (1, .ref (ad 8 0)), (2, .ref bf), (3, .ref bk), (4, .ref bt), (0, .ref b)]) hx hb dL_law_727 hl (by decide) rfl (fun ls hl => ?_)
    refine lv_aload_n hx hb dL_law_729 rfl (lv_at hl 5 rfl) ?_
    refine x_goI (wn := [(bf, .inl (g.2 0, 28, .inl (lrF f k t w9))), (bk, .inl (g.2 0, 12, .inl k)), (bt, .inl (g.2 0, 8, .inl (lrT f k t w9)))] ++ (CW g ad ((kReset q cn).2))) (x_rV (As := []) X (c_X5_reset l g ad q h.b hq cn h.cn6 h.x7 _) yf_X5_reset yi_X5_reset wM_L_85 ⟨Nat.le_of_ble_eq_true rfl, Nat.le_of_ble_eq_true rfl⟩ hP hD List.perm_append_comm 0 rfl rfl hl rfl rfl (Nat.le_of_ble_eq_true rfl) dL_law_730 ⟨show cl ≤ 600000 from by omega, show sl ≤ 7302250 from by omega⟩) hP hD hS hA List.perm_append_comm (List.Perm.refl _) (fun H locs hP hD hS => ?_)
    refine lv_iload hx hb dL_law_733 (lv_at hl 0 rfl) ?_
    refine lv_icmp_ne (tgt := 742) hx hb dL_law_735 (by decide) (fun q9 => absurd (show ((kReset q cn).1) = (lrQ f k t w9) from w2) q9) (fun c_4 => ?_)
    refine lv_iconst (v := 1) hx hb dL_law_738 (by decide) ?_
    refine lv_goto (tgt := 743) hx hb dL_law_739 (by decide) ?_
    refine lv_istore (lv' := [(8, .int 1), (16, .int (lrQ f k t w9)), (7, .int (nI fi)), (6, .int hh), (5, .int (nI ei)), (1, .ref (ad 8 0)), (2, .ref bf), (3, .ref bk), (4, .ref bt), (0, .ref b)]) hx hb dL_law_743 hl (by decide) rfl (fun ls hl => ?_)
    refine lv_goto (tgt := 950) hx hb dL_law_745 (by decide) ?_
    exact nx _ _ _ _ _ _ _ _ w3 w4 (Nat.le_add_right _ _) ls _ _ hP hD hS (lv_sub hl [0, 4, 5, 6, 7, 8, 9] rfl)


abbrev LW (g : wG) (bf bk bt : Nat) (f k t : RI) : va_W := [(bf, .inl (g.2 0, 28, .inl f)), (bk, .inl (g.2 0, 12, .inl k)), (bt, .inl (g.2 0, 8, .inl t))]
abbrev LF (g : wG) (bf : Nat) (f : RI) : va_W := [(bf, .inl (g.2 0, 28, .inl f))]
set_option maxHeartbeats 4000000 in
set_option maxRecDepth 100000 in
theorem c_L_tower0 (l : Launch) (g : wG) (ad : Nat → Nat → Nat) (q : CS) (bf bk bt tm : Nat) (f k t : Nat → Int32) (S R : Nat → Nat) (h : RQx tm 0 q t f k S R) (ht9 : tm < 2 ^ 30) (xv : Int32) (nf : Nat) (hnf : nf = 1440) : CtI l g 4 yL_tower cL_tower 12 (some .boolean) [.ref (ad 8 0), .ref bf, .ref bk, .ref bt, .int xv] (LW g bf bk bt f k t ++ CW g ad q) 1 (LW g bf bk bt f k t ++ CW g ad q) := by
  intro sz
  refine x_enter (Qc := fun A => QI g A 1 (LW g bf bk bt f k t ++ CW g ad q)) (by decide) (Nat.le_of_ble_eq_true rfl) ?_
  intro p e s m args below meth c X hr hlocks A hA hP hD hS ls hl
  obtain ⟨⟨hx, hb, hml, hown, hts⟩, hK, hN⟩ := id X
  have hl : lv_has ls 12 [(0, .ref (ad 8 0)), (1, .ref bf), (2, .ref bk), (3, .ref bt), (4, .int xv)] := hl
  have hP : va_P g.1 vwCl ([(bf, .inl (g.2 0, 28, .inl f)), (bk, .inl (g.2 0, 12, .inl k)), (bt, .inl (g.2 0, 8, .inl t))] ++ (CW g ad q)) s.heap := hP
  have hD : va_D A ([(bf, .inl (g.2 0, 28, .inl f)), (bk, .inl (g.2 0, 12, .inl k)), (bt, .inl (g.2 0, 8, .inl t))] ++ (CW g ad q)) := hD
  obtain ⟨T0, T1, T2, T3, T4, T5, T6, T7, T8⟩ := l_total h
  obtain ⟨S0, S1, S2⟩ := l_setting h
  refine lv_iconst (v := 0) hx hb dL_tower_0 (by decide) ?_
  refine lv_istore (lv' := [(5, .int 0), (0, .ref (ad 8 0)), (1, .ref bf), (2, .ref bk), (3, .ref bt), (4, .int xv)]) hx hb dL_tower_1 hl (by decide) rfl (fun ls hl => ?_)
  refine lv_iconst (v := 0) hx hb dL_tower_3 (by decide) ?_
  refine lv_istore (lv' := [(6, .int 0), (5, .int 0), (0, .ref (ad 8 0)), (1, .ref bf), (2, .ref bk), (3, .ref bt), (4, .int xv)]) hx hb dL_tower_4 hl (by decide) rfl (fun ls hl => ?_)
  refine lv_iconst (v := 0) hx hb dL_tower_6 (by decide) ?_
  refine lv_istore (lv' := [(7, .int 0), (6, .int 0), (5, .int 0), (0, .ref (ad 8 0)), (1, .ref bf), (2, .ref bk), (3, .ref bt), (4, .int xv)]) hx hb dL_tower_7 hl (by decide) rfl (fun ls hl => ?_)
  suffices LP9 : ∀ (n : Nat) (i : Nat) (b : Int32) (mm : Int32), i + n = 4 → mjI f n i b mm = mjI f 4 0 0 0 → ∀ (ls : Array Slot) (H : Heap) (locs : List Loc), va_P g.1 vwCl ([(bf, .inl (g.2 0, 28, .inl f)), (bk, .inl (g.2 0, 12, .inl k)), (bt, .inl (g.2 0, 8, .inl t))] ++ (CW g ad q)) H → va_D A ([(bf, .inl (g.2 0, 28, .inl f)), (bk, .inl (g.2 0, 12, .inl k)), (bt, .inl (g.2 0, 8, .inl t))] ++ (CW g ad q)) → va_S A s.heap H locs → lv_has ls 12 [(7, .int (nI i)), (5, .int b), (6, .int mm), (0, .ref (ad 8 0)), (1, .ref bf), (2, .ref bk), (3, .ref bt), (4, .int xv)] → W p l e (rmD 4) s m args below meth c H locs 0 0 (MQ below (QI g A 1 (LW g bf bk bt f k t ++ CW g ad q)) args s 0 0 A) (F0 m 9 ls []) from LP9 4 0 0 0 rfl rfl ls _ _ hP hD hS (lv_sub hl [0, 2, 1, 3, 4, 5, 6, 7] rfl)
  intro n
  induction n with
  | zero =>
    intro i b mm hk ht ls H locs hP hD hS hl
    refine lv_iload hx hb dL_tower_9 (lv_at hl 0 rfl) ?_
    refine lv_iconst (v := 4) hx hb dL_tower_11 (by decide) ?_
    refine lv_icmp_ge (tgt := 170) hx hb dL_tower_12 (by decide) (fun c_1 => ?_) (fun q9 => absurd (show 4 ≤ (nI i) from (nI_le (a := 4) (by omega) (by omega))) (show ¬ (4 ≤ (nI i)) from q9))
    refine lv_iload hx hb dL_tower_170 (lv_at hl 7 rfl) ?_
    refine lv_sipush (v := 1440) hx hb dL_tower_172 (by decide) ?_
    obtain ⟨j_1, hj_1, ej_1⟩ : ∃ j, j < 1440 ∧ lowF xv 1440 = nI j := low_n xv (n := 1440) (by decide) (by decide)
    refine x_goI (wn := [(bf, .inl (g.2 0, 28, .inl f)), (bk, .inl (g.2 0, 12, .inl k)), (bt, .inl (g.2 0, 8, .inl t))] ++ (CW g ad q)) (x_rS (As := [.int xv, .int 1440]) X (c_L_lowj l g xv 1440 j_1 (by decide) ej_1 _) yf_L_low ys_L_low wM_L_33 ⟨Nat.le_of_ble_eq_true rfl, Nat.le_of_ble_eq_true rfl⟩ hP hD (p_none _) hl rfl rfl (Nat.le_of_ble_eq_true rfl) dL_tower_175 ⟨Nat.zero_le _, Nat.zero_le _⟩) hP hD hS hA (p_none _) (p_noneB _) (fun H locs hP hD hS => ?_)
    refine lv_istore (lv' := [(7, .int (nI j_1)), (5, .int b), (6, .int mm), (0, .ref (ad 8 0)), (1, .ref bf), (2, .ref bk), (3, .ref bt), (4, .int xv)]) hx hb dL_tower_178 hl (by decide) rfl (fun ls hl => ?_)
    refine lv_aload_n hx hb dL_tower_180 rfl (lv_at hl 5 rfl) ?_
    refine lv_aload_n hx hb dL_tower_181 rfl (lv_at hl 6 rfl) ?_
    refine lv_iload hx hb dL_tower_182 (lv_at hl 0 rfl) ?_
    refine x_goI (wn := [(bf, .inl (g.2 0, 28, .inl f)), (bk, .inl (g.2 0, 12, .inl k)), (bt, .inl (g.2 0, 8, .inl t))] ++ (CW g ad q)) (x_rS (As := [.ref bk, .ref bt, .int (nI j_1)]) X (c_L_watch0 l g bk bt k t (nI j_1) h.t7 nf hnf _) yf_L_watch ys_L_watch wM_L_10 ⟨Nat.le_of_ble_eq_true rfl, Nat.le_of_ble_eq_true rfl⟩ hP hD (cut2 (List.Perm.refl _) (wo_perm (ws' := [_, _] ++ [_]) 3 [1, 2, 0] rfl (by decide) rfl)) hl rfl rfl (Nat.le_of_ble_eq_true rfl) dL_tower_184 ⟨Nat.zero_le _, Nat.zero_le _⟩) hP hD hS hA (cut2 (List.Perm.refl _) (wo_perm (ws' := [_, _] ++ [_]) 3 [1, 2, 0] rfl (by decide) rfl)) (back2 (wo_perm 3 [0, 1, 2] rfl (by decide) rfl) List.perm_append_comm) (fun H locs hP hD hS => ?_)
    refine lv_istore (lv' := [(8, .int (-1)), (7, .int (nI j_1)), (5, .int b), (6, .int mm), (0, .ref (ad 8 0)), (1, .ref bf), (2, .ref bk), (3, .ref bt), (4, .int xv)]) hx hb dL_tower_187 hl (by decide) rfl (fun ls hl => ?_)
    refine lv_sipush (v := 1440) hx hb dL_tower_189 (by decide) ?_
    refine lv_istore (lv' := [(9, .int 1440), (8, .int (-1)), (7, .int (nI j_1)), (5, .int b), (6, .int mm), (0, .ref (ad 8 0)), (1, .ref bf), (2, .ref bk), (3, .ref bt), (4, .int xv)]) hx hb dL_tower_192 hl (by decide) rfl (fun ls hl => ?_)
    refine lv_iconst (v := 0) hx hb dL_tower_194 (by decide) ?_
    refine lv_istore (lv' := [(10, .int 0), (9, .int 1440), (8, .int (-1)), (7, .int (nI j_1)), (5, .int b), (6, .int mm), (0, .ref (ad 8 0)), (1, .ref bf), (2, .ref bk), (3, .ref bt), (4, .int xv)]) hx hb dL_tower_195 hl (by decide) rfl (fun ls hl => ?_)
    refine lv_iload hx hb dL_tower_197 (lv_at hl 0 rfl) ?_
    refine lv_aload_n hx hb dL_tower_199 rfl (lv_at hl 9 rfl) ?_
    refine lv_bipush (v := 7) hx hb dL_tower_200 (by decide) ?_
    refine x_iald (v := (t 7)) X 2 7 hP rfl rfl (by decide) (Nat.le_of_ble_eq_true rfl) rfl dL_tower_202 ?_
    refine lv_icmp_ge (tgt := 254) hx hb dL_tower_203 (by decide) (fun c_2 => ?_) (fun q9 => absurd (show (t 7) ≤ (0 : Int32) from (by rw [h.t7]; exact Int32.le_refl _)) (show ¬ ((t 7) ≤ (0 : Int32)) from q9))
    refine lv_sipush (v := (-1000)) hx hb dL_tower_254 (by decide) ?_
    refine lv_istore (lv' := [(10, .int (-1000)), (9, .int 1440), (8, .int (-1)), (7, .int (nI j_1)), (5, .int b), (6, .int mm), (0, .ref (ad 8 0)), (1, .ref bf), (2, .ref bk), (3, .ref bt), (4, .int xv)]) hx hb dL_tower_257 hl (by decide) rfl (fun ls hl => ?_)
    refine lv_aload_n hx hb dL_tower_259 rfl (lv_at hl 6 rfl) ?_
    refine lv_iload hx hb dL_tower_260 (lv_at hl 3 rfl) ?_
    refine lv_iconst (v := 0) hx hb dL_tower_262 (by decide) ?_
    refine x_goI (wn := [(bf, .inl (g.2 0, 28, .inl f)), (bk, .inl (g.2 0, 12, .inl k)), (bt, .inl (g.2 0, 8, .inl t))] ++ (CW g ad q)) (x_rV (As := [.int (nI j_1), .int 0]) X (c_X5_keeper l g ad q (nI j_1) 0 0 h.cn6 h.x7 _) yf_X5_keeper yi_X5_keeper wM_L_36 ⟨Nat.le_of_ble_eq_true rfl, Nat.le_of_ble_eq_true rfl⟩ hP hD List.perm_append_comm 0 rfl rfl hl rfl rfl (Nat.le_of_ble_eq_true rfl) dL_tower_263 ⟨Nat.zero_le _, Nat.zero_le _⟩) hP hD hS hA List.perm_append_comm (List.Perm.refl _) (fun H locs hP hD hS => ?_)
    refine lv_iload hx hb dL_tower_266 (lv_at hl 2 rfl) ?_
    refine lv_if_ge (tgt := 276) hx hb dL_tower_268 (by decide) (fun q9 => absurd q9 (show ¬ 0 ≤ (-1 : Int32) from (by decide))) (fun c_3 => ?_)
    refine lv_iload hx hb dL_tower_271 (lv_at hl 0 rfl) ?_
    refine lv_goto (tgt := 282) hx hb dL_tower_273 (by decide) ?_
    refine lv_icmp_ne (tgt := 361) hx hb dL_tower_282 (by decide) (fun q9 => absurd (show (kKeeper q 0 (nI j_1) 0) = (-1000) from (l_none q hj_1).1) q9) (fun c_4 => ?_)
    refine lv_aload_n hx hb dL_tower_285 rfl (lv_at hl 6 rfl) ?_
    refine lv_iload hx hb dL_tower_286 (lv_at hl 3 rfl) ?_
    refine lv_iconst (v := 1) hx hb dL_tower_288 (by decide) ?_
    refine x_goI (wn := [(bf, .inl (g.2 0, 28, .inl f)), (bk, .inl (g.2 0, 12, .inl k)), (bt, .inl (g.2 0, 8, .inl t))] ++ (CW g ad q)) (x_rV (As := [.int (nI j_1), .int 1]) X (c_X5_keeper l g ad q (nI j_1) 1 0 h.cn6 h.x7 _) yf_X5_keeper yi_X5_keeper wM_L_36 ⟨Nat.le_of_ble_eq_true rfl, Nat.le_of_ble_eq_true rfl⟩ hP hD List.perm_append_comm 0 rfl rfl hl rfl rfl (Nat.le_of_ble_eq_true rfl) dL_tower_289 ⟨Nat.zero_le _, Nat.zero_le _⟩) hP hD hS hA List.perm_append_comm (List.Perm.refl _) (fun H locs hP hD hS => ?_)
    refine lv_iload hx hb dL_tower_292 (lv_at hl 2 rfl) ?_
    refine lv_if_ge (tgt := 302) hx hb dL_tower_294 (by decide) (fun q9 => absurd q9 (show ¬ 0 ≤ (-1 : Int32) from (by decide))) (fun c_5 => ?_)
    refine lv_iload hx hb dL_tower_297 (lv_at hl 0 rfl) ?_
    refine lv_goto (tgt := 310) hx hb dL_tower_299 (by decide) ?_
    refine lv_icmp_ne (tgt := 361) hx hb dL_tower_310 (by decide) (fun q9 => absurd (show (kKeeper q 0 (nI j_1) 1) = (-1000) from (l_none q hj_1).2.1) q9) (fun c_6 => ?_)
    refine lv_aload_n hx hb dL_tower_313 rfl (lv_at hl 6 rfl) ?_
    refine lv_iload hx hb dL_tower_314 (lv_at hl 3 rfl) ?_
    refine lv_iconst (v := 2) hx hb dL_tower_316 (by decide) ?_
    refine x_goI (wn := [(bf, .inl (g.2 0, 28, .inl f)), (bk, .inl (g.2 0, 12, .inl k)), (bt, .inl (g.2 0, 8, .inl t))] ++ (CW g ad q)) (x_rV (As := [.int (nI j_1), .int 2]) X (c_X5_keeper l g ad q (nI j_1) 2 0 h.cn6 h.x7 _) yf_X5_keeper yi_X5_keeper wM_L_36 ⟨Nat.le_of_ble_eq_true rfl, Nat.le_of_ble_eq_true rfl⟩ hP hD List.perm_append_comm 0 rfl rfl hl rfl rfl (Nat.le_of_ble_eq_true rfl) dL_tower_317 ⟨Nat.zero_le _, Nat.zero_le _⟩) hP hD hS hA List.perm_append_comm (List.Perm.refl _) (fun H locs hP hD hS => ?_)
    refine lv_iload hx hb dL_tower_320 (lv_at hl 2 rfl) ?_
    refine lv_if_ge (tgt := 330) hx hb dL_tower_322 (by decide) (fun q9 => absurd q9 (show ¬ 0 ≤ (-1 : Int32) from (by decide))) (fun c_7 => ?_)
    refine lv_iload hx hb dL_tower_325 (lv_at hl 0 rfl) ?_
    refine lv_goto (tgt := 332) hx hb dL_tower_327 (by decide) ?_
    refine lv_icmp_ne (tgt := 361) hx hb dL_tower_332 (by decide) (fun q9 => absurd (show (kKeeper q 0 (nI j_1) 2) = (-1000) from (l_none q hj_1).2.2) q9) (fun c_8 => ?_)
    refine lv_aload_n hx hb dL_tower_335 rfl (lv_at hl 6 rfl) ?_
    refine x_goI (wn := [(bf, .inl (g.2 0, 28, .inl f)), (bk, .inl (g.2 0, 12, .inl k)), (bt, .inl (g.2 0, 8, .inl t))] ++ (CW g ad q)) (x_rV (As := []) X (c_X5_keeperTime l g ad q 0 h.cn6 h.x7 _) yf_X5_keeperTime yi_X5_keeperTime wM_L_39 ⟨Nat.le_of_ble_eq_true rfl, Nat.le_of_ble_eq_true rfl⟩ hP hD List.perm_append_comm 0 rfl rfl hl rfl rfl (Nat.le_of_ble_eq_true rfl) dL_tower_336 ⟨Nat.zero_le _, Nat.zero_le _⟩) hP hD hS hA List.perm_append_comm (List.Perm.refl _) (fun H locs hP hD hS => ?_)
    refine lv_iload hx hb dL_tower_339 (lv_at hl 2 rfl) ?_
    refine lv_if_ge (tgt := 349) hx hb dL_tower_341 (by decide) (fun q9 => absurd q9 (show ¬ 0 ≤ (-1 : Int32) from (by decide))) (fun c_9 => ?_)
    refine lv_iload hx hb dL_tower_344 (lv_at hl 0 rfl) ?_
    refine lv_goto (tgt := 354) hx hb dL_tower_346 (by decide) ?_
    refine lv_icmp_ne (tgt := 361) hx hb dL_tower_354 (by decide) (fun q9 => absurd (show (tok 0 (cT q 0) (cT q 1) (cT q 2)) = (-1000) from tok_none) q9) (fun c_10 => ?_)
    refine lv_iconst (v := 1) hx hb dL_tower_357 (by decide) ?_
    refine lv_goto (tgt := 362) hx hb dL_tower_358 (by decide) ?_
    refine lv_istore (lv' := [(11, .int 1), (10, .int (-1000)), (9, .int 1440), (8, .int (-1)), (7, .int (nI j_1)), (5, .int b), (6, .int mm), (0, .ref (ad 8 0)), (1, .ref bf), (2, .ref bk), (3, .ref bt), (4, .int xv)]) hx hb dL_tower_362 hl (by decide) rfl (fun ls hl => ?_)
    refine lv_iload hx hb dL_tower_364 (lv_at hl 0 rfl) ?_
    refine lv_if_eq (tgt := 529) hx hb dL_tower_366 (by decide) (fun q9 => absurd q9 (show ¬ (1 : Int32) = 0 from (by decide))) (fun c_11 => ?_)
    refine lv_aload_n hx hb dL_tower_369 rfl (lv_at hl 7 rfl) ?_
    refine x_goI (wn := [(bf, .inl (g.2 0, 28, .inl f)), (bk, .inl (g.2 0, 12, .inl k)), (bt, .inl (g.2 0, 8, .inl t))] ++ (CW g ad q)) (x_rV (As := []) X (c_X5_majority l g ad q  _) yf_X5_majority yi_X5_majority wM_L_42 ⟨Nat.le_of_ble_eq_true rfl, Nat.le_of_ble_eq_true rfl⟩ hP hD List.perm_append_comm 0 rfl rfl hl rfl rfl (Nat.le_of_ble_eq_true rfl) dL_tower_370 ⟨Nat.zero_le _, Nat.zero_le _⟩) hP hD hS hA List.perm_append_comm (List.Perm.refl _) (fun H locs hP hD hS => ?_)
    refine lv_iload hx hb dL_tower_373 (lv_at hl 5 rfl) ?_
    refine lv_icmp_ne (tgt := 529) hx hb dL_tower_375 (by decide) (fun q9 => absurd (show (maL (cT q 0) 4 8 0 0) = b from ((l_maj h).trans ht.symm)) q9) (fun c_12 => ?_)
    refine lv_aload_n hx hb dL_tower_378 rfl (lv_at hl 7 rfl) ?_
    refine lv_iconst (v := 0) hx hb dL_tower_379 (by decide) ?_
    refine x_goI (wn := [(bf, .inl (g.2 0, 28, .inl f)), (bk, .inl (g.2 0, 12, .inl k)), (bt, .inl (g.2 0, 8, .inl t))] ++ (CW g ad q)) (x_rV (As := [.int 0]) X (c_X5_total l g ad q 0 _) yf_X5_total yi_X5_total wM_L_45 ⟨Nat.le_of_ble_eq_true rfl, Nat.le_of_ble_eq_true rfl⟩ hP hD List.perm_append_comm 0 rfl rfl hl rfl rfl (Nat.le_of_ble_eq_true rfl) dL_tower_380 ⟨Nat.zero_le _, Nat.zero_le _⟩) hP hD hS hA List.perm_append_comm (List.Perm.refl _) (fun H locs hP hD hS => ?_)
    refine lv_aload_n hx hb dL_tower_383 rfl (lv_at hl 10 rfl) ?_
    refine lv_iconst (v := 0) hx hb dL_tower_384 (by decide) ?_
    refine x_iald (v := (t 0)) X 2 0 hP rfl rfl (by decide) (Nat.le_of_ble_eq_true rfl) rfl dL_tower_385 ?_
    refine lv_icmp_ne (tgt := 529) hx hb dL_tower_386 (by decide) (fun q9 => absurd (show (kTotal q 0) = (t 0) from T0) q9) (fun c_13 => ?_)
    refine lv_aload_n hx hb dL_tower_389 rfl (lv_at hl 7 rfl) ?_
    refine lv_iconst (v := 1) hx hb dL_tower_390 (by decide) ?_
    refine x_goI (wn := [(bf, .inl (g.2 0, 28, .inl f)), (bk, .inl (g.2 0, 12, .inl k)), (bt, .inl (g.2 0, 8, .inl t))] ++ (CW g ad q)) (x_rV (As := [.int 1]) X (c_X5_total l g ad q 1 _) yf_X5_total yi_X5_total wM_L_45 ⟨Nat.le_of_ble_eq_true rfl, Nat.le_of_ble_eq_true rfl⟩ hP hD List.perm_append_comm 0 rfl rfl hl rfl rfl (Nat.le_of_ble_eq_true rfl) dL_tower_391 ⟨Nat.zero_le _, Nat.zero_le _⟩) hP hD hS hA List.perm_append_comm (List.Perm.refl _) (fun H locs hP hD hS => ?_)
    refine lv_aload_n hx hb dL_tower_394 rfl (lv_at hl 10 rfl) ?_
    refine lv_iconst (v := 0) hx hb dL_tower_395 (by decide) ?_
    refine x_iald (v := (t 0)) X 2 0 hP rfl rfl (by decide) (Nat.le_of_ble_eq_true rfl) rfl dL_tower_396 ?_
    refine lv_sipush (v := 1440) hx hb dL_tower_397 (by decide) ?_
    refine lv_irem hx hb dL_tower_400 (by decide) ?_
    refine lv_icmp_ne (tgt := 529) hx hb dL_tower_401 (by decide) (fun q9 => absurd (show (kTotal q 1) = (jrem (t 0) 1440) from T1) q9) (fun c_14 => ?_)
    refine lv_aload_n hx hb dL_tower_404 rfl (lv_at hl 7 rfl) ?_
    refine lv_iconst (v := 2) hx hb dL_tower_405 (by decide) ?_
    refine x_goI (wn := [(bf, .inl (g.2 0, 28, .inl f)), (bk, .inl (g.2 0, 12, .inl k)), (bt, .inl (g.2 0, 8, .inl t))] ++ (CW g ad q)) (x_rV (As := [.int 2]) X (c_X5_total l g ad q 2 _) yf_X5_total yi_X5_total wM_L_45 ⟨Nat.le_of_ble_eq_true rfl, Nat.le_of_ble_eq_true rfl⟩ hP hD List.perm_append_comm 0 rfl rfl hl rfl rfl (Nat.le_of_ble_eq_true rfl) dL_tower_406 ⟨Nat.zero_le _, Nat.zero_le _⟩) hP hD hS hA List.perm_append_comm (List.Perm.refl _) (fun H locs hP hD hS => ?_)
    refine lv_aload_n hx hb dL_tower_409 rfl (lv_at hl 10 rfl) ?_
    refine lv_iconst (v := 4) hx hb dL_tower_410 (by decide) ?_
    refine x_iald (v := (t 4)) X 2 4 hP rfl rfl (by decide) (Nat.le_of_ble_eq_true rfl) rfl dL_tower_411 ?_
    refine lv_icmp_ne (tgt := 529) hx hb dL_tower_412 (by decide) (fun q9 => absurd (show (kTotal q 2) = (t 4) from T2) q9) (fun c_15 => ?_)
    refine lv_aload_n hx hb dL_tower_415 rfl (lv_at hl 7 rfl) ?_
    refine lv_iconst (v := 3) hx hb dL_tower_416 (by decide) ?_
    refine x_goI (wn := [(bf, .inl (g.2 0, 28, .inl f)), (bk, .inl (g.2 0, 12, .inl k)), (bt, .inl (g.2 0, 8, .inl t))] ++ (CW g ad q)) (x_rV (As := [.int 3]) X (c_X5_total l g ad q 3 _) yf_X5_total yi_X5_total wM_L_45 ⟨Nat.le_of_ble_eq_true rfl, Nat.le_of_ble_eq_true rfl⟩ hP hD List.perm_append_comm 0 rfl rfl hl rfl rfl (Nat.le_of_ble_eq_true rfl) dL_tower_417 ⟨Nat.zero_le _, Nat.zero_le _⟩) hP hD hS hA List.perm_append_comm (List.Perm.refl _) (fun H locs hP hD hS => ?_)
    refine lv_aload_n hx hb dL_tower_420 rfl (lv_at hl 10 rfl) ?_
    refine lv_iconst (v := 5) hx hb dL_tower_421 (by decide) ?_
    refine x_iald (v := (t 5)) X 2 5 hP rfl rfl (by decide) (Nat.le_of_ble_eq_true rfl) rfl dL_tower_422 ?_
    refine lv_icmp_ne (tgt := 529) hx hb dL_tower_423 (by decide) (fun q9 => absurd (show (kTotal q 3) = (t 5) from T3) q9) (fun c_16 => ?_)
    refine lv_aload_n hx hb dL_tower_426 rfl (lv_at hl 7 rfl) ?_
    refine lv_iconst (v := 4) hx hb dL_tower_427 (by decide) ?_
    refine x_goI (wn := [(bf, .inl (g.2 0, 28, .inl f)), (bk, .inl (g.2 0, 12, .inl k)), (bt, .inl (g.2 0, 8, .inl t))] ++ (CW g ad q)) (x_rV (As := [.int 4]) X (c_X5_total l g ad q 4 _) yf_X5_total yi_X5_total wM_L_45 ⟨Nat.le_of_ble_eq_true rfl, Nat.le_of_ble_eq_true rfl⟩ hP hD List.perm_append_comm 0 rfl rfl hl rfl rfl (Nat.le_of_ble_eq_true rfl) dL_tower_428 ⟨Nat.zero_le _, Nat.zero_le _⟩) hP hD hS hA List.perm_append_comm (List.Perm.refl _) (fun H locs hP hD hS => ?_)
    refine lv_aload_n hx hb dL_tower_431 rfl (lv_at hl 8 rfl) ?_
    refine lv_iconst (v := 4) hx hb dL_tower_432 (by decide) ?_
    refine x_goI (wn := [(bf, .inl (g.2 0, 28, .inl f)), (bk, .inl (g.2 0, 12, .inl k)), (bt, .inl (g.2 0, 8, .inl t))] ++ (CW g ad q)) (x_rS (As := [.ref bf, .int 4]) X (c_L_sum l g bf f 4 (by decide) _) yf_L_sum ys_L_sum wM_L_49 ⟨Nat.le_of_ble_eq_true rfl, Nat.le_of_ble_eq_true rfl⟩ hP hD (cut2 (List.Perm.refl _) (wo_perm (ws' := [_] ++ [_, _]) 3 [0, 1, 2] rfl (by decide) rfl)) hl rfl rfl (Nat.le_of_ble_eq_true rfl) dL_tower_433 ⟨Nat.zero_le _, Nat.zero_le _⟩) hP hD hS hA (cut2 (List.Perm.refl _) (wo_perm (ws' := [_] ++ [_, _]) 3 [0, 1, 2] rfl (by decide) rfl)) (back2 (wo_perm 3 [2, 0, 1] rfl (by decide) rfl) List.perm_append_comm) (fun H locs hP hD hS => ?_)
    refine lv_icmp_ne (tgt := 529) hx hb dL_tower_436 (by decide) (fun q9 => absurd (show (kTotal q 4) = (sumF f 4) from T4) q9) (fun c_17 => ?_)
    refine lv_aload_n hx hb dL_tower_439 rfl (lv_at hl 7 rfl) ?_
    refine lv_iconst (v := 5) hx hb dL_tower_440 (by decide) ?_
    refine x_goI (wn := [(bf, .inl (g.2 0, 28, .inl f)), (bk, .inl (g.2 0, 12, .inl k)), (bt, .inl (g.2 0, 8, .inl t))] ++ (CW g ad q)) (x_rV (As := [.int 5]) X (c_X5_total l g ad q 5 _) yf_X5_total yi_X5_total wM_L_45 ⟨Nat.le_of_ble_eq_true rfl, Nat.le_of_ble_eq_true rfl⟩ hP hD List.perm_append_comm 0 rfl rfl hl rfl rfl (Nat.le_of_ble_eq_true rfl) dL_tower_441 ⟨Nat.zero_le _, Nat.zero_le _⟩) hP hD hS hA List.perm_append_comm (List.Perm.refl _) (fun H locs hP hD hS => ?_)
    refine lv_aload_n hx hb dL_tower_444 rfl (lv_at hl 8 rfl) ?_
    refine lv_bipush (v := 6) hx hb dL_tower_445 (by decide) ?_
    refine x_goI (wn := [(bf, .inl (g.2 0, 28, .inl f)), (bk, .inl (g.2 0, 12, .inl k)), (bt, .inl (g.2 0, 8, .inl t))] ++ (CW g ad q)) (x_rS (As := [.ref bf, .int 6]) X (c_L_sum l g bf f 6 (by decide) _) yf_L_sum ys_L_sum wM_L_49 ⟨Nat.le_of_ble_eq_true rfl, Nat.le_of_ble_eq_true rfl⟩ hP hD (cut2 (List.Perm.refl _) (wo_perm (ws' := [_] ++ [_, _]) 3 [0, 1, 2] rfl (by decide) rfl)) hl rfl rfl (Nat.le_of_ble_eq_true rfl) dL_tower_447 ⟨Nat.zero_le _, Nat.zero_le _⟩) hP hD hS hA (cut2 (List.Perm.refl _) (wo_perm (ws' := [_] ++ [_, _]) 3 [0, 1, 2] rfl (by decide) rfl)) (back2 (wo_perm 3 [2, 0, 1] rfl (by decide) rfl) List.perm_append_comm) (fun H locs hP hD hS => ?_)
    refine lv_icmp_ne (tgt := 529) hx hb dL_tower_450 (by decide) (fun q9 => absurd (show (kTotal q 5) = (sumF f 6) from T5) q9) (fun c_18 => ?_)
    refine lv_aload_n hx hb dL_tower_453 rfl (lv_at hl 7 rfl) ?_
    refine lv_bipush (v := 6) hx hb dL_tower_454 (by decide) ?_
    refine x_goI (wn := [(bf, .inl (g.2 0, 28, .inl f)), (bk, .inl (g.2 0, 12, .inl k)), (bt, .inl (g.2 0, 8, .inl t))] ++ (CW g ad q)) (x_rV (As := [.int 6]) X (c_X5_total l g ad q 6 _) yf_X5_total yi_X5_total wM_L_45 ⟨Nat.le_of_ble_eq_true rfl, Nat.le_of_ble_eq_true rfl⟩ hP hD List.perm_append_comm 0 rfl rfl hl rfl rfl (Nat.le_of_ble_eq_true rfl) dL_tower_456 ⟨Nat.zero_le _, Nat.zero_le _⟩) hP hD hS hA List.perm_append_comm (List.Perm.refl _) (fun H locs hP hD hS => ?_)
    refine lv_aload_n hx hb dL_tower_459 rfl (lv_at hl 10 rfl) ?_
    refine lv_bipush (v := 6) hx hb dL_tower_460 (by decide) ?_
    refine x_iald (v := (t 6)) X 2 6 hP rfl rfl (by decide) (Nat.le_of_ble_eq_true rfl) rfl dL_tower_462 ?_
    refine lv_icmp_ne (tgt := 529) hx hb dL_tower_463 (by decide) (fun q9 => absurd (show (kTotal q 6) = (t 6) from T6) q9) (fun c_19 => ?_)
    refine lv_aload_n hx hb dL_tower_466 rfl (lv_at hl 7 rfl) ?_
    refine lv_bipush (v := 7) hx hb dL_tower_467 (by decide) ?_
    refine x_goI (wn := [(bf, .inl (g.2 0, 28, .inl f)), (bk, .inl (g.2 0, 12, .inl k)), (bt, .inl (g.2 0, 8, .inl t))] ++ (CW g ad q)) (x_rV (As := [.int 7]) X (c_X5_total l g ad q 7 _) yf_X5_total yi_X5_total wM_L_45 ⟨Nat.le_of_ble_eq_true rfl, Nat.le_of_ble_eq_true rfl⟩ hP hD List.perm_append_comm 0 rfl rfl hl rfl rfl (Nat.le_of_ble_eq_true rfl) dL_tower_469 ⟨Nat.zero_le _, Nat.zero_le _⟩) hP hD hS hA List.perm_append_comm (List.Perm.refl _) (fun H locs hP hD hS => ?_)
    refine lv_aload_n hx hb dL_tower_472 rfl (lv_at hl 10 rfl) ?_
    refine lv_bipush (v := 7) hx hb dL_tower_473 (by decide) ?_
    refine x_iald (v := (t 7)) X 2 7 hP rfl rfl (by decide) (Nat.le_of_ble_eq_true rfl) rfl dL_tower_475 ?_
    refine lv_icmp_ne (tgt := 529) hx hb dL_tower_476 (by decide) (fun q9 => absurd (show (kTotal q 7) = (t 7) from T7) q9) (fun c_20 => ?_)
    refine lv_aload_n hx hb dL_tower_479 rfl (lv_at hl 7 rfl) ?_
    refine lv_bipush (v := 8) hx hb dL_tower_480 (by decide) ?_
    refine x_goI (wn := [(bf, .inl (g.2 0, 28, .inl f)), (bk, .inl (g.2 0, 12, .inl k)), (bt, .inl (g.2 0, 8, .inl t))] ++ (CW g ad q)) (x_rV (As := [.int 8]) X (c_X5_total l g ad q 8 _) yf_X5_total yi_X5_total wM_L_45 ⟨Nat.le_of_ble_eq_true rfl, Nat.le_of_ble_eq_true rfl⟩ hP hD List.perm_append_comm 0 rfl rfl hl rfl rfl (Nat.le_of_ble_eq_true rfl) dL_tower_482 ⟨Nat.zero_le _, Nat.zero_le _⟩) hP hD hS hA List.perm_append_comm (List.Perm.refl _) (fun H locs hP hD hS => ?_)
    refine lv_aload_n hx hb dL_tower_485 rfl (lv_at hl 8 rfl) ?_
    refine x_goI (wn := [(bf, .inl (g.2 0, 28, .inl f)), (bk, .inl (g.2 0, 12, .inl k)), (bt, .inl (g.2 0, 8, .inl t))] ++ (CW g ad q)) (x_rS (As := [.ref bf]) X (c_L_spread l g bf f h.fd _) yf_L_spread ys_L_spread wM_L_53 ⟨Nat.le_of_ble_eq_true rfl, Nat.le_of_ble_eq_true rfl⟩ hP hD (cut2 (List.Perm.refl _) (wo_perm (ws' := [_] ++ [_, _]) 3 [0, 1, 2] rfl (by decide) rfl)) hl rfl rfl (Nat.le_of_ble_eq_true rfl) dL_tower_486 ⟨Nat.zero_le _, Nat.zero_le _⟩) hP hD hS hA (cut2 (List.Perm.refl _) (wo_perm (ws' := [_] ++ [_, _]) 3 [0, 1, 2] rfl (by decide) rfl)) (back2 (wo_perm 3 [2, 0, 1] rfl (by decide) rfl) List.perm_append_comm) (fun H locs hP hD hS => ?_)
    refine lv_icmp_ne (tgt := 529) hx hb dL_tower_489 (by decide) (fun q9 => absurd (show (kTotal q 8) = (spL f) from T8) q9) (fun c_21 => ?_)
    refine lv_aload_n hx hb dL_tower_492 rfl (lv_at hl 7 rfl) ?_
    refine lv_iconst (v := 0) hx hb dL_tower_493 (by decide) ?_
    refine x_goI (wn := [(bf, .inl (g.2 0, 28, .inl f)), (bk, .inl (g.2 0, 12, .inl k)), (bt, .inl (g.2 0, 8, .inl t))] ++ (CW g ad q)) (x_rV (As := [.int 0]) X (c_X5_setting l g ad q 0 _) yf_X5_setting yi_X5_setting wM_L_57 ⟨Nat.le_of_ble_eq_true rfl, Nat.le_of_ble_eq_true rfl⟩ hP hD List.perm_append_comm 0 rfl rfl hl rfl rfl (Nat.le_of_ble_eq_true rfl) dL_tower_494 ⟨Nat.zero_le _, Nat.zero_le _⟩) hP hD hS hA List.perm_append_comm (List.Perm.refl _) (fun H locs hP hD hS => ?_)
    refine lv_aload_n hx hb dL_tower_497 rfl (lv_at hl 10 rfl) ?_
    refine lv_iconst (v := 1) hx hb dL_tower_498 (by decide) ?_
    refine x_iald (v := (t 1)) X 2 1 hP rfl rfl (by decide) (Nat.le_of_ble_eq_true rfl) rfl dL_tower_499 ?_
    refine lv_icmp_ne (tgt := 529) hx hb dL_tower_500 (by decide) (fun q9 => absurd (show (kSetting q 0) = (t 1) from S0) q9) (fun c_22 => ?_)
    refine lv_aload_n hx hb dL_tower_503 rfl (lv_at hl 7 rfl) ?_
    refine lv_iconst (v := 1) hx hb dL_tower_504 (by decide) ?_
    refine x_goI (wn := [(bf, .inl (g.2 0, 28, .inl f)), (bk, .inl (g.2 0, 12, .inl k)), (bt, .inl (g.2 0, 8, .inl t))] ++ (CW g ad q)) (x_rV (As := [.int 1]) X (c_X5_setting l g ad q 1 _) yf_X5_setting yi_X5_setting wM_L_57 ⟨Nat.le_of_ble_eq_true rfl, Nat.le_of_ble_eq_true rfl⟩ hP hD List.perm_append_comm 0 rfl rfl hl rfl rfl (Nat.le_of_ble_eq_true rfl) dL_tower_505 ⟨Nat.zero_le _, Nat.zero_le _⟩) hP hD hS hA List.perm_append_comm (List.Perm.refl _) (fun H locs hP hD hS => ?_)
    refine lv_aload_n hx hb dL_tower_508 rfl (lv_at hl 10 rfl) ?_
    refine lv_iconst (v := 2) hx hb dL_tower_509 (by decide) ?_
    refine x_iald (v := (t 2)) X 2 2 hP rfl rfl (by decide) (Nat.le_of_ble_eq_true rfl) rfl dL_tower_510 ?_
    refine lv_icmp_ne (tgt := 529) hx hb dL_tower_511 (by decide) (fun q9 => absurd (show (kSetting q 1) = (t 2) from S1) q9) (fun c_23 => ?_)
    refine lv_aload_n hx hb dL_tower_514 rfl (lv_at hl 7 rfl) ?_
    refine lv_iconst (v := 2) hx hb dL_tower_515 (by decide) ?_
    refine x_goI (wn := [(bf, .inl (g.2 0, 28, .inl f)), (bk, .inl (g.2 0, 12, .inl k)), (bt, .inl (g.2 0, 8, .inl t))] ++ (CW g ad q)) (x_rV (As := [.int 2]) X (c_X5_setting l g ad q 2 _) yf_X5_setting yi_X5_setting wM_L_57 ⟨Nat.le_of_ble_eq_true rfl, Nat.le_of_ble_eq_true rfl⟩ hP hD List.perm_append_comm 0 rfl rfl hl rfl rfl (Nat.le_of_ble_eq_true rfl) dL_tower_516 ⟨Nat.zero_le _, Nat.zero_le _⟩) hP hD hS hA List.perm_append_comm (List.Perm.refl _) (fun H locs hP hD hS => ?_)
    refine lv_aload_n hx hb dL_tower_519 rfl (lv_at hl 10 rfl) ?_
    refine lv_iconst (v := 3) hx hb dL_tower_520 (by decide) ?_
    refine x_iald (v := (t 3)) X 2 3 hP rfl rfl (by decide) (Nat.le_of_ble_eq_true rfl) rfl dL_tower_521 ?_
    refine lv_icmp_ne (tgt := 529) hx hb dL_tower_522 (by decide) (fun q9 => absurd (show (kSetting q 2) = (t 3) from S2) q9) (fun c_24 => ?_)
    refine lv_iconst (v := 1) hx hb dL_tower_525 (by decide) ?_
    refine lv_goto (tgt := 530) hx hb dL_tower_526 (by decide) ?_
    exact x_zret X hr hlocks rfl hP hD hS rfl dL_tower_530
  | succ n ih =>
    intro i b mm hk ht ls H locs hP hD hS hl
    refine lv_iload hx hb dL_tower_9 (lv_at hl 0 rfl) ?_
    refine lv_iconst (v := 4) hx hb dL_tower_11 (by decide) ?_
    refine lv_icmp_ge (tgt := 170) hx hb dL_tower_12 (by decide) (fun q9 => absurd q9 (show ¬ 4 ≤ (nI i) from (nI_ge (b := 4) (by omega) (by omega)))) (fun c_25 => ?_)
    refine lv_iconst (v := 0) hx hb dL_tower_15 (by decide) ?_
    refine lv_istore (lv' := [(8, .int 0), (7, .int (nI i)), (5, .int b), (6, .int mm), (0, .ref (ad 8 0)), (1, .ref bf), (2, .ref bk), (3, .ref bt), (4, .int xv)]) hx hb dL_tower_16 hl (by decide) rfl (fun ls hl => ?_)
    refine lv_iconst (v := 0) hx hb dL_tower_18 (by decide) ?_
    refine lv_istore (lv' := [(9, .int 0), (8, .int 0), (7, .int (nI i)), (5, .int b), (6, .int mm), (0, .ref (ad 8 0)), (1, .ref bf), (2, .ref bk), (3, .ref bt), (4, .int xv)]) hx hb dL_tower_19 hl (by decide) rfl (fun ls hl => ?_)
    suffices LP21 : ∀ (n : Nat) (j : Nat), j + n = 7 → ∀ (ls : Array Slot) (H : Heap) (locs : List Loc), va_P g.1 vwCl ([(bf, .inl (g.2 0, 28, .inl f)), (bk, .inl (g.2 0, 12, .inl k)), (bt, .inl (g.2 0, 8, .inl t))] ++ (CW g ad q)) H → va_D A ([(bf, .inl (g.2 0, 28, .inl f)), (bk, .inl (g.2 0, 12, .inl k)), (bt, .inl (g.2 0, 8, .inl t))] ++ (CW g ad q)) → va_S A s.heap H locs → lv_has ls 12 [(9, .int (nI j)), (8, .int 0), (7, .int (nI i)), (5, .int b), (6, .int mm), (0, .ref (ad 8 0)), (1, .ref bf), (2, .ref bk), (3, .ref bt), (4, .int xv)] → W p l e (rmD 4) s m args below meth c H locs 0 0 (MQ below (QI g A 1 (LW g bf bk bt f k t ++ CW g ad q)) args s 0 0 A) (F0 m 21 ls []) from LP21 7 0 rfl ls _ _ hP hD hS (lv_sub hl [0, 1, 2, 3, 4, 5, 6, 7, 8, 9] rfl)
    intro n
    induction n with
    | zero =>
      intro j hj ls H locs hP hD hS hl
      refine lv_iload hx hb dL_tower_21 (lv_at hl 0 rfl) ?_
      refine lv_bipush (v := 7) hx hb dL_tower_23 (by decide) ?_
      refine lv_icmp_ge (tgt := 57) hx hb dL_tower_25 (by decide) (fun c_26 => ?_) (fun q9 => absurd (show 7 ≤ (nI j) from (nI_le (a := 7) (by omega) (by omega))) (show ¬ (7 ≤ (nI j)) from q9))
      refine lv_iconst (v := 0) hx hb dL_tower_57 (by decide) ?_
      refine lv_istore (lv' := [(9, .int 0), (8, .int 0), (7, .int (nI i)), (5, .int b), (6, .int mm), (0, .ref (ad 8 0)), (1, .ref bf), (2, .ref bk), (3, .ref bt), (4, .int xv)]) hx hb dL_tower_58 hl (by decide) rfl (fun ls hl => ?_)
      suffices LP60 : ∀ (n : Nat) (o : Nat) (u : Int32), o + 7 * n = 28 → smI f (f (7 * i)) n o u = smI f (f (7 * i)) 4 0 0 → ∀ (ls : Array Slot) (H : Heap) (locs : List Loc), va_P g.1 vwCl ([(bf, .inl (g.2 0, 28, .inl f)), (bk, .inl (g.2 0, 12, .inl k)), (bt, .inl (g.2 0, 8, .inl t))] ++ (CW g ad q)) H → va_D A ([(bf, .inl (g.2 0, 28, .inl f)), (bk, .inl (g.2 0, 12, .inl k)), (bt, .inl (g.2 0, 8, .inl t))] ++ (CW g ad q)) → va_S A s.heap H locs → lv_has ls 12 [(9, .int (nI o)), (8, .int u), (7, .int (nI i)), (5, .int b), (6, .int mm), (0, .ref (ad 8 0)), (1, .ref bf), (2, .ref bk), (3, .ref bt), (4, .int xv)] → W p l e (rmD 4) s m args below meth c H locs 0 0 (MQ below (QI g A 1 (LW g bf bk bt f k t ++ CW g ad q)) args s 0 0 A) (F0 m 60 ls []) from LP60 4 0 0 rfl rfl ls _ _ hP hD hS (lv_sub hl [0, 1, 2, 3, 4, 5, 6, 7, 8, 9] rfl)
      intro n
      induction n with
      | zero =>
        intro o u ho hu ls H locs hP hD hS hl
        have eu : u = smI f (f (7 * i)) 4 0 0 := hu
        refine lv_iload hx hb dL_tower_60 (lv_at hl 0 rfl) ?_
        refine lv_bipush (v := 28) hx hb dL_tower_62 (by decide) ?_
        refine lv_icmp_ge (tgt := 97) hx hb dL_tower_64 (by decide) (fun c_27 => ?_) (fun q9 => absurd (show 28 ≤ (nI o) from (nI_le (a := 28) (by omega) (by omega))) (show ¬ (28 ≤ (nI o)) from q9))
        refine lv_iload hx hb dL_tower_97 (lv_at hl 1 rfl) ?_
        refine lv_iload hx hb dL_tower_99 (lv_at hl 4 rfl) ?_
        refine lv_icmp_le (tgt := 114) hx hb dL_tower_101 (by decide) (fun (c_28 : u ≤ mm) => ?_) (fun (c_28 : ¬ u ≤ mm) => ?_)
        · refine lv_iload hx hb dL_tower_114 (lv_at hl 3 rfl) ?_
          refine lv_istore (lv' := [(5, .int b), (9, .int (nI o)), (8, .int u), (7, .int (nI i)), (6, .int mm), (0, .ref (ad 8 0)), (1, .ref bf), (2, .ref bk), (3, .ref bt), (4, .int xv)]) hx hb dL_tower_116 hl (by decide) rfl (fun ls hl => ?_)
          refine lv_iload hx hb dL_tower_118 (lv_at hl 2 rfl) ?_
          refine lv_iload hx hb dL_tower_120 (lv_at hl 4 rfl) ?_
          refine lv_icmp_le (tgt := 130) hx hb dL_tower_122 (by decide) (fun c_29 => ?_) (fun q9 => absurd (show u ≤ mm from c_28) (show ¬ (u ≤ mm) from q9))
          refine lv_iload hx hb dL_tower_130 (lv_at hl 4 rfl) ?_
          refine lv_istore (lv' := [(6, .int mm), (5, .int b), (9, .int (nI o)), (8, .int u), (7, .int (nI i)), (0, .ref (ad 8 0)), (1, .ref bf), (2, .ref bk), (3, .ref bt), (4, .int xv)]) hx hb dL_tower_132 hl (by decide) rfl (fun ls hl => ?_)
          refine lv_aload_n hx hb dL_tower_134 rfl (lv_at hl 5 rfl) ?_
          refine lv_iload hx hb dL_tower_135 (lv_at hl 4 rfl) ?_
          refine lv_bipush (v := 7) hx hb dL_tower_137 (by decide) ?_
          refine x_goI (wn := [(bf, .inl (g.2 0, 28, .inl f)), (bk, .inl (g.2 0, 12, .inl k)), (bt, .inl (g.2 0, 8, .inl t))] ++ (CW g ad q)) (x_rV (As := [.int (nI i), .int 7]) X (c_X5_face l g ad q (nI i) 7 _) yf_X5_face yi_X5_face wM_L_28 ⟨Nat.le_of_ble_eq_true rfl, Nat.le_of_ble_eq_true rfl⟩ hP hD List.perm_append_comm 0 rfl rfl hl rfl rfl (Nat.le_of_ble_eq_true rfl) dL_tower_139 ⟨Nat.zero_le _, Nat.zero_le _⟩) hP hD hS hA List.perm_append_comm (List.Perm.refl _) (fun H locs hP hD hS => ?_)
          refine lv_aload_n hx hb dL_tower_142 rfl (lv_at hl 6 rfl) ?_
          refine lv_bipush (v := 7) hx hb dL_tower_143 (by decide) ?_
          refine lv_iload hx hb dL_tower_145 (lv_at hl 4 rfl) ?_
          refine lv_imul hx hb dL_tower_147 ?_
          refine x_iald (v := (f (7 * i))) X 0 (7 * i) hP rfl (z_mul rfl rfl) (by omega) (Nat.le_of_ble_eq_true rfl) rfl dL_tower_148 ?_
          refine lv_aload_n hx hb dL_tower_149 rfl (lv_at hl 8 rfl) ?_
          refine lv_iconst (v := 0) hx hb dL_tower_150 (by decide) ?_
          refine x_iald (v := (t 0)) X 2 0 hP rfl rfl (by decide) (Nat.le_of_ble_eq_true rfl) rfl dL_tower_151 ?_
          refine lv_sipush (v := 720) hx hb dL_tower_152 (by decide) ?_
          refine lv_irem hx hb dL_tower_155 (by decide) ?_
          refine x_goI (wn := [(bf, .inl (g.2 0, 28, .inl f)), (bk, .inl (g.2 0, 12, .inl k)), (bt, .inl (g.2 0, 8, .inl t))] ++ (CW g ad q)) (x_rS (As := [.int (f (7 * i)), .int (jrem (t 0) 720)]) X (c_L_apart l g (f (7 * i)) (jrem (t 0) 720) (h.fd i (by omega)) (h.dt ht9) _) yf_L_apart ys_L_apart wM_L_20 ⟨Nat.le_of_ble_eq_true rfl, Nat.le_of_ble_eq_true rfl⟩ hP hD (p_none _) hl rfl rfl (Nat.le_of_ble_eq_true rfl) dL_tower_156 ⟨Nat.zero_le _, Nat.zero_le _⟩) hP hD hS hA (p_none _) (p_noneB _) (fun H locs hP hD hS => ?_)
          refine lv_icmp_eq (tgt := 164) hx hb dL_tower_159 (by decide) (fun c_30 => ?_) (fun q9 => absurd (show (kFace q (nI i) 7) = (distC (f (7 * i)) (jrem (t 0) 720)) from (l_face7 h (by omega))) (show ¬ ((kFace q (nI i) 7) = (distC (f (7 * i)) (jrem (t 0) 720))) from q9))
          refine lv_iinc (v := (nI (i + 1))) (lv' := [(7, .int (nI (i + 1))), (6, .int mm), (5, .int b), (9, .int (nI o)), (8, .int u), (0, .ref (ad 8 0)), (1, .ref bf), (2, .ref bk), (3, .ref bt), (4, .int xv)]) hx hb dL_tower_164 hl (k := 4) rfl (nI_add _ 1) (by decide) rfl (fun ls hl => ?_)
          refine lv_goto (tgt := 9) hx hb dL_tower_167 (by decide) ?_
          exact ih (i + 1) b mm (by omega) (by rw [← ht]; exact (if_pos (show smI f (f (7 * i)) 4 0 0 ≤ mm from by rw [← eu]; exact c_28)).symm) ls _ _ hP hD hS (lv_sub hl [0, 2, 1, 5, 6, 7, 8, 9] rfl)
        · refine lv_aload_n hx hb dL_tower_104 rfl (lv_at hl 6 rfl) ?_
          refine lv_bipush (v := 7) hx hb dL_tower_105 (by decide) ?_
          refine lv_iload hx hb dL_tower_107 (lv_at hl 2 rfl) ?_
          refine lv_imul hx hb dL_tower_109 ?_
          refine x_iald (v := (f (7 * i))) X 0 (7 * i) hP rfl (z_mul rfl rfl) (by omega) (Nat.le_of_ble_eq_true rfl) rfl dL_tower_110 ?_
          refine lv_goto (tgt := 116) hx hb dL_tower_111 (by decide) ?_
          refine lv_istore (lv' := [(5, .int (f (7 * i))), (9, .int (nI o)), (8, .int u), (7, .int (nI i)), (6, .int mm), (0, .ref (ad 8 0)), (1, .ref bf), (2, .ref bk), (3, .ref bt), (4, .int xv)]) hx hb dL_tower_116 hl (by decide) rfl (fun ls hl => ?_)
          refine lv_iload hx hb dL_tower_118 (lv_at hl 2 rfl) ?_
          refine lv_iload hx hb dL_tower_120 (lv_at hl 4 rfl) ?_
          refine lv_icmp_le (tgt := 130) hx hb dL_tower_122 (by decide) (fun q9 => absurd q9 (show ¬ u ≤ mm from c_28)) (fun c_31 => ?_)
          refine lv_iload hx hb dL_tower_125 (lv_at hl 2 rfl) ?_
          refine lv_goto (tgt := 132) hx hb dL_tower_127 (by decide) ?_
          refine lv_istore (lv' := [(6, .int u), (5, .int (f (7 * i))), (9, .int (nI o)), (8, .int u), (7, .int (nI i)), (0, .ref (ad 8 0)), (1, .ref bf), (2, .ref bk), (3, .ref bt), (4, .int xv)]) hx hb dL_tower_132 hl (by decide) rfl (fun ls hl => ?_)
          refine lv_aload_n hx hb dL_tower_134 rfl (lv_at hl 5 rfl) ?_
          refine lv_iload hx hb dL_tower_135 (lv_at hl 4 rfl) ?_
          refine lv_bipush (v := 7) hx hb dL_tower_137 (by decide) ?_
          refine x_goI (wn := [(bf, .inl (g.2 0, 28, .inl f)), (bk, .inl (g.2 0, 12, .inl k)), (bt, .inl (g.2 0, 8, .inl t))] ++ (CW g ad q)) (x_rV (As := [.int (nI i), .int 7]) X (c_X5_face l g ad q (nI i) 7 _) yf_X5_face yi_X5_face wM_L_28 ⟨Nat.le_of_ble_eq_true rfl, Nat.le_of_ble_eq_true rfl⟩ hP hD List.perm_append_comm 0 rfl rfl hl rfl rfl (Nat.le_of_ble_eq_true rfl) dL_tower_139 ⟨Nat.zero_le _, Nat.zero_le _⟩) hP hD hS hA List.perm_append_comm (List.Perm.refl _) (fun H locs hP hD hS => ?_)
          refine lv_aload_n hx hb dL_tower_142 rfl (lv_at hl 6 rfl) ?_
          refine lv_bipush (v := 7) hx hb dL_tower_143 (by decide) ?_
          refine lv_iload hx hb dL_tower_145 (lv_at hl 4 rfl) ?_
          refine lv_imul hx hb dL_tower_147 ?_
          refine x_iald (v := (f (7 * i))) X 0 (7 * i) hP rfl (z_mul rfl rfl) (by omega) (Nat.le_of_ble_eq_true rfl) rfl dL_tower_148 ?_
          refine lv_aload_n hx hb dL_tower_149 rfl (lv_at hl 8 rfl) ?_
          refine lv_iconst (v := 0) hx hb dL_tower_150 (by decide) ?_
          refine x_iald (v := (t 0)) X 2 0 hP rfl rfl (by decide) (Nat.le_of_ble_eq_true rfl) rfl dL_tower_151 ?_
          refine lv_sipush (v := 720) hx hb dL_tower_152 (by decide) ?_
          refine lv_irem hx hb dL_tower_155 (by decide) ?_
          refine x_goI (wn := [(bf, .inl (g.2 0, 28, .inl f)), (bk, .inl (g.2 0, 12, .inl k)), (bt, .inl (g.2 0, 8, .inl t))] ++ (CW g ad q)) (x_rS (As := [.int (f (7 * i)), .int (jrem (t 0) 720)]) X (c_L_apart l g (f (7 * i)) (jrem (t 0) 720) (h.fd i (by omega)) (h.dt ht9) _) yf_L_apart ys_L_apart wM_L_20 ⟨Nat.le_of_ble_eq_true rfl, Nat.le_of_ble_eq_true rfl⟩ hP hD (p_none _) hl rfl rfl (Nat.le_of_ble_eq_true rfl) dL_tower_156 ⟨Nat.zero_le _, Nat.zero_le _⟩) hP hD hS hA (p_none _) (p_noneB _) (fun H locs hP hD hS => ?_)
          refine lv_icmp_eq (tgt := 164) hx hb dL_tower_159 (by decide) (fun c_32 => ?_) (fun q9 => absurd (show (kFace q (nI i) 7) = (distC (f (7 * i)) (jrem (t 0) 720)) from (l_face7 h (by omega))) (show ¬ ((kFace q (nI i) 7) = (distC (f (7 * i)) (jrem (t 0) 720))) from q9))
          refine lv_iinc (v := (nI (i + 1))) (lv' := [(7, .int (nI (i + 1))), (6, .int u), (5, .int (f (7 * i))), (9, .int (nI o)), (8, .int u), (0, .ref (ad 8 0)), (1, .ref bf), (2, .ref bk), (3, .ref bt), (4, .int xv)]) hx hb dL_tower_164 hl (k := 4) rfl (nI_add _ 1) (by decide) rfl (fun ls hl => ?_)
          refine lv_goto (tgt := 9) hx hb dL_tower_167 (by decide) ?_
          exact ih (i + 1) (f (7 * i)) u (by omega) (by rw [← ht, eu]; exact (if_neg (show ¬ smI f (f (7 * i)) 4 0 0 ≤ mm from by rw [← eu]; exact c_28)).symm) ls _ _ hP hD hS (lv_sub hl [0, 2, 1, 5, 6, 7, 8, 9] rfl)
      | succ n ih =>
        intro o u ho hu ls H locs hP hD hS hl
        refine lv_iload hx hb dL_tower_60 (lv_at hl 0 rfl) ?_
        refine lv_bipush (v := 28) hx hb dL_tower_62 (by decide) ?_
        refine lv_icmp_ge (tgt := 97) hx hb dL_tower_64 (by decide) (fun q9 => absurd q9 (show ¬ 28 ≤ (nI o) from (nI_ge (b := 28) (by omega) (by omega)))) (fun c_33 => ?_)
        refine lv_iload hx hb dL_tower_67 (lv_at hl 1 rfl) ?_
        refine lv_aload_n hx hb dL_tower_69 rfl (lv_at hl 6 rfl) ?_
        refine lv_iload hx hb dL_tower_70 (lv_at hl 0 rfl) ?_
        refine x_iald (v := (f o)) X 0 o hP rfl rfl (by omega) (Nat.le_of_ble_eq_true rfl) rfl dL_tower_72 ?_
        refine lv_aload_n hx hb dL_tower_73 rfl (lv_at hl 6 rfl) ?_
        refine lv_bipush (v := 7) hx hb dL_tower_74 (by decide) ?_
        refine lv_iload hx hb dL_tower_76 (lv_at hl 2 rfl) ?_
        refine lv_imul hx hb dL_tower_78 ?_
        refine x_iald (v := (f (7 * i))) X 0 (7 * i) hP rfl (z_mul rfl rfl) (by omega) (Nat.le_of_ble_eq_true rfl) rfl dL_tower_79 ?_
        refine lv_icmp_ne (tgt := 87) hx hb dL_tower_80 (by decide) (fun (c_34 : ¬ (f o) = (f (7 * i))) => ?_) (fun (c_34 : (f o) = (f (7 * i))) => ?_)
        · refine lv_iconst (v := 0) hx hb dL_tower_87 (by decide) ?_
          refine lv_iadd hx hb dL_tower_88 ?_
          refine lv_istore (lv' := [(8, .int (u + 0)), (9, .int (nI o)), (7, .int (nI i)), (5, .int b), (6, .int mm), (0, .ref (ad 8 0)), (1, .ref bf), (2, .ref bk), (3, .ref bt), (4, .int xv)]) hx hb dL_tower_89 hl (by decide) rfl (fun ls hl => ?_)
          refine lv_iinc (v := (nI (o + 7))) (lv' := [(9, .int (nI (o + 7))), (8, .int (u + 0)), (7, .int (nI i)), (5, .int b), (6, .int mm), (0, .ref (ad 8 0)), (1, .ref bf), (2, .ref bk), (3, .ref bt), (4, .int xv)]) hx hb dL_tower_91 hl (k := 1) rfl (nI_add _ 7) (by decide) rfl (fun ls hl => ?_)
          refine lv_goto (tgt := 60) hx hb dL_tower_94 (by decide) ?_
          exact ih (o + 7) (u + 0) (by omega) (by rw [← hu]; exact (if_neg c_34).symm) ls _ _ hP hD hS (lv_sub hl [0, 1, 2, 3, 4, 5, 6, 7, 8, 9] rfl)
        · refine lv_iconst (v := 1) hx hb dL_tower_83 (by decide) ?_
          refine lv_goto (tgt := 88) hx hb dL_tower_84 (by decide) ?_
          refine lv_iadd hx hb dL_tower_88 ?_
          refine lv_istore (lv' := [(8, .int (u + 1)), (9, .int (nI o)), (7, .int (nI i)), (5, .int b), (6, .int mm), (0, .ref (ad 8 0)), (1, .ref bf), (2, .ref bk), (3, .ref bt), (4, .int xv)]) hx hb dL_tower_89 hl (by decide) rfl (fun ls hl => ?_)
          refine lv_iinc (v := (nI (o + 7))) (lv' := [(9, .int (nI (o + 7))), (8, .int (u + 1)), (7, .int (nI i)), (5, .int b), (6, .int mm), (0, .ref (ad 8 0)), (1, .ref bf), (2, .ref bk), (3, .ref bt), (4, .int xv)]) hx hb dL_tower_91 hl (k := 1) rfl (nI_add _ 7) (by decide) rfl (fun ls hl => ?_)
          refine lv_goto (tgt := 60) hx hb dL_tower_94 (by decide) ?_
          exact ih (o + 7) (u + 1) (by omega) (by rw [← hu]; exact (if_pos c_34).symm) ls _ _ hP hD hS (lv_sub hl [0, 1, 2, 3, 4, 5, 6, 7, 8, 9] rfl)
    | succ n ih =>
      intro j hj ls H locs hP hD hS hl
      refine lv_iload hx hb dL_tower_21 (lv_at hl 0 rfl) ?_
      refine lv_bipush (v := 7) hx hb dL_tower_23 (by decide) ?_
      refine lv_icmp_ge (tgt := 57) hx hb dL_tower_25 (by decide) (fun q9 => absurd q9 (show ¬ 7 ≤ (nI j) from (nI_ge (b := 7) (by omega) (by omega)))) (fun c_35 => ?_)
      refine lv_aload_n hx hb dL_tower_28 rfl (lv_at hl 5 rfl) ?_
      refine lv_iload hx hb dL_tower_29 (lv_at hl 2 rfl) ?_
      refine lv_iload hx hb dL_tower_31 (lv_at hl 0 rfl) ?_
      refine x_goI (wn := [(bf, .inl (g.2 0, 28, .inl f)), (bk, .inl (g.2 0, 12, .inl k)), (bt, .inl (g.2 0, 8, .inl t))] ++ (CW g ad q)) (x_rV (As := [.int (nI i), .int (nI j)]) X (c_X5_face l g ad q (nI i) (nI j) _) yf_X5_face yi_X5_face wM_L_28 ⟨Nat.le_of_ble_eq_true rfl, Nat.le_of_ble_eq_true rfl⟩ hP hD List.perm_append_comm 0 rfl rfl hl rfl rfl (Nat.le_of_ble_eq_true rfl) dL_tower_33 ⟨Nat.zero_le _, Nat.zero_le _⟩) hP hD hS hA List.perm_append_comm (List.Perm.refl _) (fun H locs hP hD hS => ?_)
      refine lv_aload_n hx hb dL_tower_36 rfl (lv_at hl 6 rfl) ?_
      refine lv_bipush (v := 7) hx hb dL_tower_37 (by decide) ?_
      refine lv_iload hx hb dL_tower_39 (lv_at hl 2 rfl) ?_
      refine lv_imul hx hb dL_tower_41 ?_
      refine lv_iload hx hb dL_tower_42 (lv_at hl 0 rfl) ?_
      refine lv_iadd hx hb dL_tower_44 ?_
      refine x_iald (v := (f ((7 * i) + j))) X 0 ((7 * i) + j) hP rfl (z_add (z_mul rfl rfl) rfl) (by omega) (Nat.le_of_ble_eq_true rfl) rfl dL_tower_45 ?_
      refine lv_icmp_eq (tgt := 51) hx hb dL_tower_46 (by decide) (fun c_36 => ?_) (fun q9 => absurd (show (kFace q (nI i) (nI j)) = (f ((7 * i) + j)) from (l_face h (by omega) (by omega))) (show ¬ ((kFace q (nI i) (nI j)) = (f ((7 * i) + j))) from q9))
      refine lv_iinc (v := (nI (j + 1))) (lv' := [(9, .int (nI (j + 1))), (8, .int 0), (7, .int (nI i)), (5, .int b), (6, .int mm), (0, .ref (ad 8 0)), (1, .ref bf), (2, .ref bk), (3, .ref bt), (4, .int xv)]) hx hb dL_tower_51 hl (k := 0) rfl (nI_add _ 1) (by decide) rfl (fun ls hl => ?_)
      refine lv_goto (tgt := 21) hx hb dL_tower_54 (by decide) ?_
      exact ih (j + 1) (by omega) ls _ _ hP hD hS (lv_sub hl [0, 1, 2, 3, 4, 5, 6, 7, 8, 9] rfl)

set_option maxHeartbeats 4000000 in
set_option maxRecDepth 100000 in
theorem c_L_tower1 (l : Launch) (g : wG) (ad : Nat → Nat → Nat) (q : CS) (bf bk bt tm cn : Nat) (f k t : Nat → Int32) (S R : Nat → Nat) (h : RQx tm cn q t f k S R) (ht9 : tm < 2 ^ 30) (hc1 : 1 ≤ cn) (xv : Int32) : CtI l g 4 yL_tower cL_tower 12 (some .boolean) [.ref (ad 8 0), .ref bf, .ref bk, .ref bt, .int xv] (LW g bf bk bt f k t ++ CW g ad q) 1 (LW g bf bk bt f k t ++ CW g ad q) := by
  intro sz
  refine x_enter (Qc := fun A => QI g A 1 (LW g bf bk bt f k t ++ CW g ad q)) (by decide) (Nat.le_of_ble_eq_true rfl) ?_
  intro p e s m args below meth c X hr hlocks A hA hP hD hS ls hl
  obtain ⟨⟨hx, hb, hml, hown, hts⟩, hK, hN⟩ := id X
  have hl : lv_has ls 12 [(0, .ref (ad 8 0)), (1, .ref bf), (2, .ref bk), (3, .ref bt), (4, .int xv)] := hl
  have hP : va_P g.1 vwCl ([(bf, .inl (g.2 0, 28, .inl f)), (bk, .inl (g.2 0, 12, .inl k)), (bt, .inl (g.2 0, 8, .inl t))] ++ (CW g ad q)) s.heap := hP
  have hD : va_D A ([(bf, .inl (g.2 0, 28, .inl f)), (bk, .inl (g.2 0, 12, .inl k)), (bt, .inl (g.2 0, 8, .inl t))] ++ (CW g ad q)) := hD
  obtain ⟨T0, T1, T2, T3, T4, T5, T6, T7, T8⟩ := l_total h
  obtain ⟨S0, S1, S2⟩ := l_setting h
  refine lv_iconst (v := 0) hx hb dL_tower_0 (by decide) ?_
  refine lv_istore (lv' := [(5, .int 0), (0, .ref (ad 8 0)), (1, .ref bf), (2, .ref bk), (3, .ref bt), (4, .int xv)]) hx hb dL_tower_1 hl (by decide) rfl (fun ls hl => ?_)
  refine lv_iconst (v := 0) hx hb dL_tower_3 (by decide) ?_
  refine lv_istore (lv' := [(6, .int 0), (5, .int 0), (0, .ref (ad 8 0)), (1, .ref bf), (2, .ref bk), (3, .ref bt), (4, .int xv)]) hx hb dL_tower_4 hl (by decide) rfl (fun ls hl => ?_)
  refine lv_iconst (v := 0) hx hb dL_tower_6 (by decide) ?_
  refine lv_istore (lv' := [(7, .int 0), (6, .int 0), (5, .int 0), (0, .ref (ad 8 0)), (1, .ref bf), (2, .ref bk), (3, .ref bt), (4, .int xv)]) hx hb dL_tower_7 hl (by decide) rfl (fun ls hl => ?_)
  suffices LP9 : ∀ (n : Nat) (i : Nat) (b : Int32) (mm : Int32), i + n = 4 → mjI f n i b mm = mjI f 4 0 0 0 → ∀ (ls : Array Slot) (H : Heap) (locs : List Loc), va_P g.1 vwCl ([(bf, .inl (g.2 0, 28, .inl f)), (bk, .inl (g.2 0, 12, .inl k)), (bt, .inl (g.2 0, 8, .inl t))] ++ (CW g ad q)) H → va_D A ([(bf, .inl (g.2 0, 28, .inl f)), (bk, .inl (g.2 0, 12, .inl k)), (bt, .inl (g.2 0, 8, .inl t))] ++ (CW g ad q)) → va_S A s.heap H locs → lv_has ls 12 [(7, .int (nI i)), (5, .int b), (6, .int mm), (0, .ref (ad 8 0)), (1, .ref bf), (2, .ref bk), (3, .ref bt), (4, .int xv)] → W p l e (rmD 4) s m args below meth c H locs 0 0 (MQ below (QI g A 1 (LW g bf bk bt f k t ++ CW g ad q)) args s 0 0 A) (F0 m 9 ls []) from LP9 4 0 0 0 rfl rfl ls _ _ hP hD hS (lv_sub hl [0, 2, 1, 3, 4, 5, 6, 7] rfl)
  intro n
  induction n with
  | zero =>
    intro i b mm hk ht ls H locs hP hD hS hl
    refine lv_iload hx hb dL_tower_9 (lv_at hl 0 rfl) ?_
    refine lv_iconst (v := 4) hx hb dL_tower_11 (by decide) ?_
    refine lv_icmp_ge (tgt := 170) hx hb dL_tower_12 (by decide) (fun c_1 => ?_) (fun q9 => absurd (show 4 ≤ (nI i) from (nI_le (a := 4) (by omega) (by omega))) (show ¬ (4 ≤ (nI i)) from q9))
    refine lv_iload hx hb dL_tower_170 (lv_at hl 7 rfl) ?_
    refine lv_sipush (v := 1440) hx hb dL_tower_172 (by decide) ?_
    obtain ⟨j_1, hj_1, ej_1⟩ : ∃ j, j < 1440 ∧ lowF xv 1440 = nI j := low_n xv (n := 1440) (by decide) (by decide)
    refine x_goI (wn := [(bf, .inl (g.2 0, 28, .inl f)), (bk, .inl (g.2 0, 12, .inl k)), (bt, .inl (g.2 0, 8, .inl t))] ++ (CW g ad q)) (x_rS (As := [.int xv, .int 1440]) X (c_L_lowj l g xv 1440 j_1 (by decide) ej_1 _) yf_L_low ys_L_low wM_L_33 ⟨Nat.le_of_ble_eq_true rfl, Nat.le_of_ble_eq_true rfl⟩ hP hD (p_none _) hl rfl rfl (Nat.le_of_ble_eq_true rfl) dL_tower_175 ⟨Nat.zero_le _, Nat.zero_le _⟩) hP hD hS hA (p_none _) (p_noneB _) (fun H locs hP hD hS => ?_)
    refine lv_istore (lv' := [(7, .int (nI j_1)), (5, .int b), (6, .int mm), (0, .ref (ad 8 0)), (1, .ref bf), (2, .ref bk), (3, .ref bt), (4, .int xv)]) hx hb dL_tower_178 hl (by decide) rfl (fun ls hl => ?_)
    refine lv_aload_n hx hb dL_tower_180 rfl (lv_at hl 5 rfl) ?_
    refine lv_aload_n hx hb dL_tower_181 rfl (lv_at hl 6 rfl) ?_
    refine lv_iload hx hb dL_tower_182 (lv_at hl 0 rfl) ?_
    obtain ⟨w, w1, hW, k0, k1, k2⟩ := l_watch h hj_1 hc1
    refine x_goI (wn := [(bf, .inl (g.2 0, 28, .inl f)), (bk, .inl (g.2 0, 12, .inl k)), (bt, .inl (g.2 0, 8, .inl t))] ++ (CW g ad q)) (x_rS (As := [.ref bk, .ref bt, .int (nI j_1)]) X (c_L_watch l g bk bt cn w k t (nI j_1) hW _) yf_L_watch ys_L_watch wM_L_10 ⟨Nat.le_of_ble_eq_true rfl, Nat.le_of_ble_eq_true rfl⟩ hP hD (cut2 (List.Perm.refl _) (wo_perm (ws' := [_, _] ++ [_]) 3 [1, 2, 0] rfl (by decide) rfl)) hl rfl rfl (Nat.le_of_ble_eq_true rfl) dL_tower_184 ⟨Nat.zero_le _, Nat.zero_le _⟩) hP hD hS hA (cut2 (List.Perm.refl _) (wo_perm (ws' := [_, _] ++ [_]) 3 [1, 2, 0] rfl (by decide) rfl)) (back2 (wo_perm 3 [0, 1, 2] rfl (by decide) rfl) List.perm_append_comm) (fun H locs hP hD hS => ?_)
    refine lv_istore (lv' := [(8, .int (nI w)), (7, .int (nI j_1)), (5, .int b), (6, .int mm), (0, .ref (ad 8 0)), (1, .ref bf), (2, .ref bk), (3, .ref bt), (4, .int xv)]) hx hb dL_tower_187 hl (by decide) rfl (fun ls hl => ?_)
    refine lv_sipush (v := 1440) hx hb dL_tower_189 (by decide) ?_
    refine lv_istore (lv' := [(9, .int 1440), (8, .int (nI w)), (7, .int (nI j_1)), (5, .int b), (6, .int mm), (0, .ref (ad 8 0)), (1, .ref bf), (2, .ref bk), (3, .ref bt), (4, .int xv)]) hx hb dL_tower_192 hl (by decide) rfl (fun ls hl => ?_)
    refine lv_iconst (v := 0) hx hb dL_tower_194 (by decide) ?_
    refine lv_istore (lv' := [(10, .int 0), (9, .int 1440), (8, .int (nI w)), (7, .int (nI j_1)), (5, .int b), (6, .int mm), (0, .ref (ad 8 0)), (1, .ref bf), (2, .ref bk), (3, .ref bt), (4, .int xv)]) hx hb dL_tower_195 hl (by decide) rfl (fun ls hl => ?_)
    suffices LP197 : ∀ (n : Nat) (m9 : Nat) (u9 : Int32), m9 + n = cn → utI k (nI j_1) w n m9 u9 = utI k (nI j_1) w cn 0 1440 → ∀ (ls : Array Slot) (H : Heap) (locs : List Loc), va_P g.1 vwCl ([(bf, .inl (g.2 0, 28, .inl f)), (bk, .inl (g.2 0, 12, .inl k)), (bt, .inl (g.2 0, 8, .inl t))] ++ (CW g ad q)) H → va_D A ([(bf, .inl (g.2 0, 28, .inl f)), (bk, .inl (g.2 0, 12, .inl k)), (bt, .inl (g.2 0, 8, .inl t))] ++ (CW g ad q)) → va_S A s.heap H locs → lv_has ls 12 [(10, .int (nI m9)), (9, .int u9), (8, .int (nI w)), (7, .int (nI j_1)), (5, .int b), (0, .ref (ad 8 0)), (1, .ref bf), (2, .ref bk), (3, .ref bt), (4, .int xv)] → W p l e (rmD 4) s m args below meth c H locs 0 0 (MQ below (QI g A 1 (LW g bf bk bt f k t ++ CW g ad q)) args s 0 0 A) (F0 m 197 ls []) from LP197 cn 0 1440 (Nat.zero_add _) rfl ls _ _ hP hD hS (lv_sub hl [0, 1, 2, 3, 4, 6, 7, 8, 9, 10] rfl)
    intro n
    induction n with
    | zero =>
      intro m9 u9 hm9 hu9 ls H locs hP hD hS hl
      have hc6 := h.cn6
      refine lv_iload hx hb dL_tower_197 (lv_at hl 0 rfl) ?_
      refine lv_aload_n hx hb dL_tower_199 rfl (lv_at hl 8 rfl) ?_
      refine lv_bipush (v := 7) hx hb dL_tower_200 (by decide) ?_
      refine x_iald (v := (t 7)) X 2 7 hP rfl rfl (by decide) (Nat.le_of_ble_eq_true rfl) rfl dL_tower_202 ?_
      refine lv_icmp_ge (tgt := 254) hx hb dL_tower_203 (by decide) (fun c_2 => ?_) (fun q9 => absurd (show (t 7) ≤ (nI m9) from (by rw [h.t7]; exact nI_le (by omega) (by omega))) (show ¬ ((t 7) ≤ (nI m9)) from q9))
      refine lv_sipush (v := (-1000)) hx hb dL_tower_254 (by decide) ?_
      refine lv_istore (lv' := [(10, .int (-1000)), (9, .int u9), (8, .int (nI w)), (7, .int (nI j_1)), (5, .int b), (0, .ref (ad 8 0)), (1, .ref bf), (2, .ref bk), (3, .ref bt), (4, .int xv)]) hx hb dL_tower_257 hl (by decide) rfl (fun ls hl => ?_)
      refine lv_aload_n hx hb dL_tower_259 rfl (lv_at hl 5 rfl) ?_
      refine lv_iload hx hb dL_tower_260 (lv_at hl 3 rfl) ?_
      refine lv_iconst (v := 0) hx hb dL_tower_262 (by decide) ?_
      refine x_goI (wn := [(bf, .inl (g.2 0, 28, .inl f)), (bk, .inl (g.2 0, 12, .inl k)), (bt, .inl (g.2 0, 8, .inl t))] ++ (CW g ad q)) (x_rV (As := [.int (nI j_1), .int 0]) X (c_X5_keeper l g ad q (nI j_1) 0 cn h.cn6 h.x7 _) yf_X5_keeper yi_X5_keeper wM_L_36 ⟨Nat.le_of_ble_eq_true rfl, Nat.le_of_ble_eq_true rfl⟩ hP hD List.perm_append_comm 0 rfl rfl hl rfl rfl (Nat.le_of_ble_eq_true rfl) dL_tower_263 ⟨Nat.zero_le _, Nat.zero_le _⟩) hP hD hS hA List.perm_append_comm (List.Perm.refl _) (fun H locs hP hD hS => ?_)
      refine lv_iload hx hb dL_tower_266 (lv_at hl 2 rfl) ?_
      refine lv_if_ge (tgt := 276) hx hb dL_tower_268 (by decide) (fun c_3 => ?_) (fun q9 => absurd (show 0 ≤ (nI w) from (nI_pos' (by omega))) (show ¬ (0 ≤ (nI w)) from q9))
      refine lv_aload_n hx hb dL_tower_276 rfl (lv_at hl 7 rfl) ?_
      refine lv_iconst (v := 2) hx hb dL_tower_277 (by decide) ?_
      refine lv_iload hx hb dL_tower_278 (lv_at hl 2 rfl) ?_
      refine lv_imul hx hb dL_tower_280 ?_
      refine x_iald (v := (k (2 * w))) X 1 (2 * w) hP rfl (z_mul rfl rfl) (by omega) (Nat.le_of_ble_eq_true rfl) rfl dL_tower_281 ?_
      refine lv_icmp_ne (tgt := 361) hx hb dL_tower_282 (by decide) (fun q9 => absurd (show (kKeeper q cn (nI j_1) 0) = (k (2 * w)) from k0) q9) (fun c_4 => ?_)
      refine lv_aload_n hx hb dL_tower_285 rfl (lv_at hl 5 rfl) ?_
      refine lv_iload hx hb dL_tower_286 (lv_at hl 3 rfl) ?_
      refine lv_iconst (v := 1) hx hb dL_tower_288 (by decide) ?_
      refine x_goI (wn := [(bf, .inl (g.2 0, 28, .inl f)), (bk, .inl (g.2 0, 12, .inl k)), (bt, .inl (g.2 0, 8, .inl t))] ++ (CW g ad q)) (x_rV (As := [.int (nI j_1), .int 1]) X (c_X5_keeper l g ad q (nI j_1) 1 cn h.cn6 h.x7 _) yf_X5_keeper yi_X5_keeper wM_L_36 ⟨Nat.le_of_ble_eq_true rfl, Nat.le_of_ble_eq_true rfl⟩ hP hD List.perm_append_comm 0 rfl rfl hl rfl rfl (Nat.le_of_ble_eq_true rfl) dL_tower_289 ⟨Nat.zero_le _, Nat.zero_le _⟩) hP hD hS hA List.perm_append_comm (List.Perm.refl _) (fun H locs hP hD hS => ?_)
      refine lv_iload hx hb dL_tower_292 (lv_at hl 2 rfl) ?_
      refine lv_if_ge (tgt := 302) hx hb dL_tower_294 (by decide) (fun c_5 => ?_) (fun q9 => absurd (show 0 ≤ (nI w) from (nI_pos' (by omega))) (show ¬ (0 ≤ (nI w)) from q9))
      refine lv_aload_n hx hb dL_tower_302 rfl (lv_at hl 7 rfl) ?_
      refine lv_iconst (v := 2) hx hb dL_tower_303 (by decide) ?_
      refine lv_iload hx hb dL_tower_304 (lv_at hl 2 rfl) ?_
      refine lv_imul hx hb dL_tower_306 ?_
      refine lv_iconst (v := 1) hx hb dL_tower_307 (by decide) ?_
      refine lv_iadd hx hb dL_tower_308 ?_
      refine x_iald (v := (k ((2 * w) + 1))) X 1 ((2 * w) + 1) hP rfl (z_add (z_mul rfl rfl) rfl) (by omega) (Nat.le_of_ble_eq_true rfl) rfl dL_tower_309 ?_
      refine lv_icmp_ne (tgt := 361) hx hb dL_tower_310 (by decide) (fun q9 => absurd (show (kKeeper q cn (nI j_1) 1) = (k ((2 * w) + 1)) from k1) q9) (fun c_6 => ?_)
      refine lv_aload_n hx hb dL_tower_313 rfl (lv_at hl 5 rfl) ?_
      refine lv_iload hx hb dL_tower_314 (lv_at hl 3 rfl) ?_
      refine lv_iconst (v := 2) hx hb dL_tower_316 (by decide) ?_
      refine x_goI (wn := [(bf, .inl (g.2 0, 28, .inl f)), (bk, .inl (g.2 0, 12, .inl k)), (bt, .inl (g.2 0, 8, .inl t))] ++ (CW g ad q)) (x_rV (As := [.int (nI j_1), .int 2]) X (c_X5_keeper l g ad q (nI j_1) 2 cn h.cn6 h.x7 _) yf_X5_keeper yi_X5_keeper wM_L_36 ⟨Nat.le_of_ble_eq_true rfl, Nat.le_of_ble_eq_true rfl⟩ hP hD List.perm_append_comm 0 rfl rfl hl rfl rfl (Nat.le_of_ble_eq_true rfl) dL_tower_317 ⟨Nat.zero_le _, Nat.zero_le _⟩) hP hD hS hA List.perm_append_comm (List.Perm.refl _) (fun H locs hP hD hS => ?_)
      refine lv_iload hx hb dL_tower_320 (lv_at hl 2 rfl) ?_
      refine lv_if_ge (tgt := 330) hx hb dL_tower_322 (by decide) (fun c_7 => ?_) (fun q9 => absurd (show 0 ≤ (nI w) from (nI_pos' (by omega))) (show ¬ (0 ≤ (nI w)) from q9))
      refine lv_iload hx hb dL_tower_330 (lv_at hl 1 rfl) ?_
      refine lv_icmp_ne (tgt := 361) hx hb dL_tower_332 (by decide) (fun q9 => absurd (show (kKeeper q cn (nI j_1) 2) = u9 from (k2.trans hu9.symm)) q9) (fun c_8 => ?_)
      refine lv_aload_n hx hb dL_tower_335 rfl (lv_at hl 5 rfl) ?_
      refine x_goI (wn := [(bf, .inl (g.2 0, 28, .inl f)), (bk, .inl (g.2 0, 12, .inl k)), (bt, .inl (g.2 0, 8, .inl t))] ++ (CW g ad q)) (x_rV (As := []) X (c_X5_keeperTime l g ad q cn h.cn6 h.x7 _) yf_X5_keeperTime yi_X5_keeperTime wM_L_39 ⟨Nat.le_of_ble_eq_true rfl, Nat.le_of_ble_eq_true rfl⟩ hP hD List.perm_append_comm 0 rfl rfl hl rfl rfl (Nat.le_of_ble_eq_true rfl) dL_tower_336 ⟨Nat.zero_le _, Nat.zero_le _⟩) hP hD hS hA List.perm_append_comm (List.Perm.refl _) (fun H locs hP hD hS => ?_)
      refine lv_iload hx hb dL_tower_339 (lv_at hl 2 rfl) ?_
      refine lv_if_ge (tgt := 349) hx hb dL_tower_341 (by decide) (fun c_9 => ?_) (fun q9 => absurd (show 0 ≤ (nI w) from (nI_pos' (by omega))) (show ¬ (0 ≤ (nI w)) from q9))
      refine lv_aload_n hx hb dL_tower_349 rfl (lv_at hl 7 rfl) ?_
      refine lv_aload_n hx hb dL_tower_350 rfl (lv_at hl 8 rfl) ?_
      obtain ⟨w2, w6, hW2, k3⟩ := l_kt h ht9 hc1
      refine x_goI (wn := [(bf, .inl (g.2 0, 28, .inl f)), (bk, .inl (g.2 0, 12, .inl k)), (bt, .inl (g.2 0, 8, .inl t))] ++ (CW g ad q)) (x_rS (As := [.ref bk, .ref bt]) X (c_L_keeperTime l g bk bt cn w2 k t hW2 _) yf_L_keeperTime ys_L_keeperTime wM_L_16 ⟨Nat.le_of_ble_eq_true rfl, Nat.le_of_ble_eq_true rfl⟩ hP hD (cut2 (List.Perm.refl _) (wo_perm (ws' := [_, _] ++ [_]) 3 [1, 2, 0] rfl (by decide) rfl)) hl rfl rfl (Nat.le_of_ble_eq_true rfl) dL_tower_351 ⟨Nat.zero_le _, Nat.zero_le _⟩) hP hD hS hA (cut2 (List.Perm.refl _) (wo_perm (ws' := [_, _] ++ [_]) 3 [1, 2, 0] rfl (by decide) rfl)) (back2 (wo_perm 3 [0, 1, 2] rfl (by decide) rfl) List.perm_append_comm) (fun H locs hP hD hS => ?_)
      refine lv_icmp_ne (tgt := 361) hx hb dL_tower_354 (by decide) (fun q9 => absurd (show (tok cn (cT q 0) (cT q 1) (cT q 2)) = (ktL k t w2) from k3) q9) (fun c_10 => ?_)
      refine lv_iconst (v := 1) hx hb dL_tower_357 (by decide) ?_
      refine lv_goto (tgt := 362) hx hb dL_tower_358 (by decide) ?_
      refine lv_istore (lv' := [(11, .int 1), (10, .int (-1000)), (9, .int u9), (8, .int (nI w)), (7, .int (nI j_1)), (5, .int b), (0, .ref (ad 8 0)), (1, .ref bf), (2, .ref bk), (3, .ref bt), (4, .int xv)]) hx hb dL_tower_362 hl (by decide) rfl (fun ls hl => ?_)
      refine lv_iload hx hb dL_tower_364 (lv_at hl 0 rfl) ?_
      refine lv_if_eq (tgt := 529) hx hb dL_tower_366 (by decide) (fun q9 => absurd q9 (show ¬ (1 : Int32) = 0 from (by decide))) (fun c_11 => ?_)
      refine lv_aload_n hx hb dL_tower_369 rfl (lv_at hl 6 rfl) ?_
      refine x_goI (wn := [(bf, .inl (g.2 0, 28, .inl f)), (bk, .inl (g.2 0, 12, .inl k)), (bt, .inl (g.2 0, 8, .inl t))] ++ (CW g ad q)) (x_rV (As := []) X (c_X5_majority l g ad q  _) yf_X5_majority yi_X5_majority wM_L_42 ⟨Nat.le_of_ble_eq_true rfl, Nat.le_of_ble_eq_true rfl⟩ hP hD List.perm_append_comm 0 rfl rfl hl rfl rfl (Nat.le_of_ble_eq_true rfl) dL_tower_370 ⟨Nat.zero_le _, Nat.zero_le _⟩) hP hD hS hA List.perm_append_comm (List.Perm.refl _) (fun H locs hP hD hS => ?_)
      refine lv_iload hx hb dL_tower_373 (lv_at hl 5 rfl) ?_
      refine lv_icmp_ne (tgt := 529) hx hb dL_tower_375 (by decide) (fun q9 => absurd (show (maL (cT q 0) 4 8 0 0) = b from ((l_maj h).trans ht.symm)) q9) (fun c_12 => ?_)
      refine lv_aload_n hx hb dL_tower_378 rfl (lv_at hl 6 rfl) ?_
      refine lv_iconst (v := 0) hx hb dL_tower_379 (by decide) ?_
      refine x_goI (wn := [(bf, .inl (g.2 0, 28, .inl f)), (bk, .inl (g.2 0, 12, .inl k)), (bt, .inl (g.2 0, 8, .inl t))] ++ (CW g ad q)) (x_rV (As := [.int 0]) X (c_X5_total l g ad q 0 _) yf_X5_total yi_X5_total wM_L_45 ⟨Nat.le_of_ble_eq_true rfl, Nat.le_of_ble_eq_true rfl⟩ hP hD List.perm_append_comm 0 rfl rfl hl rfl rfl (Nat.le_of_ble_eq_true rfl) dL_tower_380 ⟨Nat.zero_le _, Nat.zero_le _⟩) hP hD hS hA List.perm_append_comm (List.Perm.refl _) (fun H locs hP hD hS => ?_)
      refine lv_aload_n hx hb dL_tower_383 rfl (lv_at hl 9 rfl) ?_
      refine lv_iconst (v := 0) hx hb dL_tower_384 (by decide) ?_
      refine x_iald (v := (t 0)) X 2 0 hP rfl rfl (by decide) (Nat.le_of_ble_eq_true rfl) rfl dL_tower_385 ?_
      refine lv_icmp_ne (tgt := 529) hx hb dL_tower_386 (by decide) (fun q9 => absurd (show (kTotal q 0) = (t 0) from T0) q9) (fun c_13 => ?_)
      refine lv_aload_n hx hb dL_tower_389 rfl (lv_at hl 6 rfl) ?_
      refine lv_iconst (v := 1) hx hb dL_tower_390 (by decide) ?_
      refine x_goI (wn := [(bf, .inl (g.2 0, 28, .inl f)), (bk, .inl (g.2 0, 12, .inl k)), (bt, .inl (g.2 0, 8, .inl t))] ++ (CW g ad q)) (x_rV (As := [.int 1]) X (c_X5_total l g ad q 1 _) yf_X5_total yi_X5_total wM_L_45 ⟨Nat.le_of_ble_eq_true rfl, Nat.le_of_ble_eq_true rfl⟩ hP hD List.perm_append_comm 0 rfl rfl hl rfl rfl (Nat.le_of_ble_eq_true rfl) dL_tower_391 ⟨Nat.zero_le _, Nat.zero_le _⟩) hP hD hS hA List.perm_append_comm (List.Perm.refl _) (fun H locs hP hD hS => ?_)
      refine lv_aload_n hx hb dL_tower_394 rfl (lv_at hl 9 rfl) ?_
      refine lv_iconst (v := 0) hx hb dL_tower_395 (by decide) ?_
      refine x_iald (v := (t 0)) X 2 0 hP rfl rfl (by decide) (Nat.le_of_ble_eq_true rfl) rfl dL_tower_396 ?_
      refine lv_sipush (v := 1440) hx hb dL_tower_397 (by decide) ?_
      refine lv_irem hx hb dL_tower_400 (by decide) ?_
      refine lv_icmp_ne (tgt := 529) hx hb dL_tower_401 (by decide) (fun q9 => absurd (show (kTotal q 1) = (jrem (t 0) 1440) from T1) q9) (fun c_14 => ?_)
      refine lv_aload_n hx hb dL_tower_404 rfl (lv_at hl 6 rfl) ?_
      refine lv_iconst (v := 2) hx hb dL_tower_405 (by decide) ?_
      refine x_goI (wn := [(bf, .inl (g.2 0, 28, .inl f)), (bk, .inl (g.2 0, 12, .inl k)), (bt, .inl (g.2 0, 8, .inl t))] ++ (CW g ad q)) (x_rV (As := [.int 2]) X (c_X5_total l g ad q 2 _) yf_X5_total yi_X5_total wM_L_45 ⟨Nat.le_of_ble_eq_true rfl, Nat.le_of_ble_eq_true rfl⟩ hP hD List.perm_append_comm 0 rfl rfl hl rfl rfl (Nat.le_of_ble_eq_true rfl) dL_tower_406 ⟨Nat.zero_le _, Nat.zero_le _⟩) hP hD hS hA List.perm_append_comm (List.Perm.refl _) (fun H locs hP hD hS => ?_)
      refine lv_aload_n hx hb dL_tower_409 rfl (lv_at hl 9 rfl) ?_
      refine lv_iconst (v := 4) hx hb dL_tower_410 (by decide) ?_
      refine x_iald (v := (t 4)) X 2 4 hP rfl rfl (by decide) (Nat.le_of_ble_eq_true rfl) rfl dL_tower_411 ?_
      refine lv_icmp_ne (tgt := 529) hx hb dL_tower_412 (by decide) (fun q9 => absurd (show (kTotal q 2) = (t 4) from T2) q9) (fun c_15 => ?_)
      refine lv_aload_n hx hb dL_tower_415 rfl (lv_at hl 6 rfl) ?_
      refine lv_iconst (v := 3) hx hb dL_tower_416 (by decide) ?_
      refine x_goI (wn := [(bf, .inl (g.2 0, 28, .inl f)), (bk, .inl (g.2 0, 12, .inl k)), (bt, .inl (g.2 0, 8, .inl t))] ++ (CW g ad q)) (x_rV (As := [.int 3]) X (c_X5_total l g ad q 3 _) yf_X5_total yi_X5_total wM_L_45 ⟨Nat.le_of_ble_eq_true rfl, Nat.le_of_ble_eq_true rfl⟩ hP hD List.perm_append_comm 0 rfl rfl hl rfl rfl (Nat.le_of_ble_eq_true rfl) dL_tower_417 ⟨Nat.zero_le _, Nat.zero_le _⟩) hP hD hS hA List.perm_append_comm (List.Perm.refl _) (fun H locs hP hD hS => ?_)
      refine lv_aload_n hx hb dL_tower_420 rfl (lv_at hl 9 rfl) ?_
      refine lv_iconst (v := 5) hx hb dL_tower_421 (by decide) ?_
      refine x_iald (v := (t 5)) X 2 5 hP rfl rfl (by decide) (Nat.le_of_ble_eq_true rfl) rfl dL_tower_422 ?_
      refine lv_icmp_ne (tgt := 529) hx hb dL_tower_423 (by decide) (fun q9 => absurd (show (kTotal q 3) = (t 5) from T3) q9) (fun c_16 => ?_)
      refine lv_aload_n hx hb dL_tower_426 rfl (lv_at hl 6 rfl) ?_
      refine lv_iconst (v := 4) hx hb dL_tower_427 (by decide) ?_
      refine x_goI (wn := [(bf, .inl (g.2 0, 28, .inl f)), (bk, .inl (g.2 0, 12, .inl k)), (bt, .inl (g.2 0, 8, .inl t))] ++ (CW g ad q)) (x_rV (As := [.int 4]) X (c_X5_total l g ad q 4 _) yf_X5_total yi_X5_total wM_L_45 ⟨Nat.le_of_ble_eq_true rfl, Nat.le_of_ble_eq_true rfl⟩ hP hD List.perm_append_comm 0 rfl rfl hl rfl rfl (Nat.le_of_ble_eq_true rfl) dL_tower_428 ⟨Nat.zero_le _, Nat.zero_le _⟩) hP hD hS hA List.perm_append_comm (List.Perm.refl _) (fun H locs hP hD hS => ?_)
      refine lv_aload_n hx hb dL_tower_431 rfl (lv_at hl 7 rfl) ?_
      refine lv_iconst (v := 4) hx hb dL_tower_432 (by decide) ?_
      refine x_goI (wn := [(bf, .inl (g.2 0, 28, .inl f)), (bk, .inl (g.2 0, 12, .inl k)), (bt, .inl (g.2 0, 8, .inl t))] ++ (CW g ad q)) (x_rS (As := [.ref bf, .int 4]) X (c_L_sum l g bf f 4 (by decide) _) yf_L_sum ys_L_sum wM_L_49 ⟨Nat.le_of_ble_eq_true rfl, Nat.le_of_ble_eq_true rfl⟩ hP hD (cut2 (List.Perm.refl _) (wo_perm (ws' := [_] ++ [_, _]) 3 [0, 1, 2] rfl (by decide) rfl)) hl rfl rfl (Nat.le_of_ble_eq_true rfl) dL_tower_433 ⟨Nat.zero_le _, Nat.zero_le _⟩) hP hD hS hA (cut2 (List.Perm.refl _) (wo_perm (ws' := [_] ++ [_, _]) 3 [0, 1, 2] rfl (by decide) rfl)) (back2 (wo_perm 3 [2, 0, 1] rfl (by decide) rfl) List.perm_append_comm) (fun H locs hP hD hS => ?_)
      refine lv_icmp_ne (tgt := 529) hx hb dL_tower_436 (by decide) (fun q9 => absurd (show (kTotal q 4) = (sumF f 4) from T4) q9) (fun c_17 => ?_)
      refine lv_aload_n hx hb dL_tower_439 rfl (lv_at hl 6 rfl) ?_
      refine lv_iconst (v := 5) hx hb dL_tower_440 (by decide) ?_
      refine x_goI (wn := [(bf, .inl (g.2 0, 28, .inl f)), (bk, .inl (g.2 0, 12, .inl k)), (bt, .inl (g.2 0, 8, .inl t))] ++ (CW g ad q)) (x_rV (As := [.int 5]) X (c_X5_total l g ad q 5 _) yf_X5_total yi_X5_total wM_L_45 ⟨Nat.le_of_ble_eq_true rfl, Nat.le_of_ble_eq_true rfl⟩ hP hD List.perm_append_comm 0 rfl rfl hl rfl rfl (Nat.le_of_ble_eq_true rfl) dL_tower_441 ⟨Nat.zero_le _, Nat.zero_le _⟩) hP hD hS hA List.perm_append_comm (List.Perm.refl _) (fun H locs hP hD hS => ?_)
      refine lv_aload_n hx hb dL_tower_444 rfl (lv_at hl 7 rfl) ?_
      refine lv_bipush (v := 6) hx hb dL_tower_445 (by decide) ?_
      refine x_goI (wn := [(bf, .inl (g.2 0, 28, .inl f)), (bk, .inl (g.2 0, 12, .inl k)), (bt, .inl (g.2 0, 8, .inl t))] ++ (CW g ad q)) (x_rS (As := [.ref bf, .int 6]) X (c_L_sum l g bf f 6 (by decide) _) yf_L_sum ys_L_sum wM_L_49 ⟨Nat.le_of_ble_eq_true rfl, Nat.le_of_ble_eq_true rfl⟩ hP hD (cut2 (List.Perm.refl _) (wo_perm (ws' := [_] ++ [_, _]) 3 [0, 1, 2] rfl (by decide) rfl)) hl rfl rfl (Nat.le_of_ble_eq_true rfl) dL_tower_447 ⟨Nat.zero_le _, Nat.zero_le _⟩) hP hD hS hA (cut2 (List.Perm.refl _) (wo_perm (ws' := [_] ++ [_, _]) 3 [0, 1, 2] rfl (by decide) rfl)) (back2 (wo_perm 3 [2, 0, 1] rfl (by decide) rfl) List.perm_append_comm) (fun H locs hP hD hS => ?_)
      refine lv_icmp_ne (tgt := 529) hx hb dL_tower_450 (by decide) (fun q9 => absurd (show (kTotal q 5) = (sumF f 6) from T5) q9) (fun c_18 => ?_)
      refine lv_aload_n hx hb dL_tower_453 rfl (lv_at hl 6 rfl) ?_
      refine lv_bipush (v := 6) hx hb dL_tower_454 (by decide) ?_
      refine x_goI (wn := [(bf, .inl (g.2 0, 28, .inl f)), (bk, .inl (g.2 0, 12, .inl k)), (bt, .inl (g.2 0, 8, .inl t))] ++ (CW g ad q)) (x_rV (As := [.int 6]) X (c_X5_total l g ad q 6 _) yf_X5_total yi_X5_total wM_L_45 ⟨Nat.le_of_ble_eq_true rfl, Nat.le_of_ble_eq_true rfl⟩ hP hD List.perm_append_comm 0 rfl rfl hl rfl rfl (Nat.le_of_ble_eq_true rfl) dL_tower_456 ⟨Nat.zero_le _, Nat.zero_le _⟩) hP hD hS hA List.perm_append_comm (List.Perm.refl _) (fun H locs hP hD hS => ?_)
      refine lv_aload_n hx hb dL_tower_459 rfl (lv_at hl 9 rfl) ?_
      refine lv_bipush (v := 6) hx hb dL_tower_460 (by decide) ?_
      refine x_iald (v := (t 6)) X 2 6 hP rfl rfl (by decide) (Nat.le_of_ble_eq_true rfl) rfl dL_tower_462 ?_
      refine lv_icmp_ne (tgt := 529) hx hb dL_tower_463 (by decide) (fun q9 => absurd (show (kTotal q 6) = (t 6) from T6) q9) (fun c_19 => ?_)
      refine lv_aload_n hx hb dL_tower_466 rfl (lv_at hl 6 rfl) ?_
      refine lv_bipush (v := 7) hx hb dL_tower_467 (by decide) ?_
      refine x_goI (wn := [(bf, .inl (g.2 0, 28, .inl f)), (bk, .inl (g.2 0, 12, .inl k)), (bt, .inl (g.2 0, 8, .inl t))] ++ (CW g ad q)) (x_rV (As := [.int 7]) X (c_X5_total l g ad q 7 _) yf_X5_total yi_X5_total wM_L_45 ⟨Nat.le_of_ble_eq_true rfl, Nat.le_of_ble_eq_true rfl⟩ hP hD List.perm_append_comm 0 rfl rfl hl rfl rfl (Nat.le_of_ble_eq_true rfl) dL_tower_469 ⟨Nat.zero_le _, Nat.zero_le _⟩) hP hD hS hA List.perm_append_comm (List.Perm.refl _) (fun H locs hP hD hS => ?_)
      refine lv_aload_n hx hb dL_tower_472 rfl (lv_at hl 9 rfl) ?_
      refine lv_bipush (v := 7) hx hb dL_tower_473 (by decide) ?_
      refine x_iald (v := (t 7)) X 2 7 hP rfl rfl (by decide) (Nat.le_of_ble_eq_true rfl) rfl dL_tower_475 ?_
      refine lv_icmp_ne (tgt := 529) hx hb dL_tower_476 (by decide) (fun q9 => absurd (show (kTotal q 7) = (t 7) from T7) q9) (fun c_20 => ?_)
      refine lv_aload_n hx hb dL_tower_479 rfl (lv_at hl 6 rfl) ?_
      refine lv_bipush (v := 8) hx hb dL_tower_480 (by decide) ?_
      refine x_goI (wn := [(bf, .inl (g.2 0, 28, .inl f)), (bk, .inl (g.2 0, 12, .inl k)), (bt, .inl (g.2 0, 8, .inl t))] ++ (CW g ad q)) (x_rV (As := [.int 8]) X (c_X5_total l g ad q 8 _) yf_X5_total yi_X5_total wM_L_45 ⟨Nat.le_of_ble_eq_true rfl, Nat.le_of_ble_eq_true rfl⟩ hP hD List.perm_append_comm 0 rfl rfl hl rfl rfl (Nat.le_of_ble_eq_true rfl) dL_tower_482 ⟨Nat.zero_le _, Nat.zero_le _⟩) hP hD hS hA List.perm_append_comm (List.Perm.refl _) (fun H locs hP hD hS => ?_)
      refine lv_aload_n hx hb dL_tower_485 rfl (lv_at hl 7 rfl) ?_
      refine x_goI (wn := [(bf, .inl (g.2 0, 28, .inl f)), (bk, .inl (g.2 0, 12, .inl k)), (bt, .inl (g.2 0, 8, .inl t))] ++ (CW g ad q)) (x_rS (As := [.ref bf]) X (c_L_spread l g bf f h.fd _) yf_L_spread ys_L_spread wM_L_53 ⟨Nat.le_of_ble_eq_true rfl, Nat.le_of_ble_eq_true rfl⟩ hP hD (cut2 (List.Perm.refl _) (wo_perm (ws' := [_] ++ [_, _]) 3 [0, 1, 2] rfl (by decide) rfl)) hl rfl rfl (Nat.le_of_ble_eq_true rfl) dL_tower_486 ⟨Nat.zero_le _, Nat.zero_le _⟩) hP hD hS hA (cut2 (List.Perm.refl _) (wo_perm (ws' := [_] ++ [_, _]) 3 [0, 1, 2] rfl (by decide) rfl)) (back2 (wo_perm 3 [2, 0, 1] rfl (by decide) rfl) List.perm_append_comm) (fun H locs hP hD hS => ?_)
      refine lv_icmp_ne (tgt := 529) hx hb dL_tower_489 (by decide) (fun q9 => absurd (show (kTotal q 8) = (spL f) from T8) q9) (fun c_21 => ?_)
      refine lv_aload_n hx hb dL_tower_492 rfl (lv_at hl 6 rfl) ?_
      refine lv_iconst (v := 0) hx hb dL_tower_493 (by decide) ?_
      refine x_goI (wn := [(bf, .inl (g.2 0, 28, .inl f)), (bk, .inl (g.2 0, 12, .inl k)), (bt, .inl (g.2 0, 8, .inl t))] ++ (CW g ad q)) (x_rV (As := [.int 0]) X (c_X5_setting l g ad q 0 _) yf_X5_setting yi_X5_setting wM_L_57 ⟨Nat.le_of_ble_eq_true rfl, Nat.le_of_ble_eq_true rfl⟩ hP hD List.perm_append_comm 0 rfl rfl hl rfl rfl (Nat.le_of_ble_eq_true rfl) dL_tower_494 ⟨Nat.zero_le _, Nat.zero_le _⟩) hP hD hS hA List.perm_append_comm (List.Perm.refl _) (fun H locs hP hD hS => ?_)
      refine lv_aload_n hx hb dL_tower_497 rfl (lv_at hl 9 rfl) ?_
      refine lv_iconst (v := 1) hx hb dL_tower_498 (by decide) ?_
      refine x_iald (v := (t 1)) X 2 1 hP rfl rfl (by decide) (Nat.le_of_ble_eq_true rfl) rfl dL_tower_499 ?_
      refine lv_icmp_ne (tgt := 529) hx hb dL_tower_500 (by decide) (fun q9 => absurd (show (kSetting q 0) = (t 1) from S0) q9) (fun c_22 => ?_)
      refine lv_aload_n hx hb dL_tower_503 rfl (lv_at hl 6 rfl) ?_
      refine lv_iconst (v := 1) hx hb dL_tower_504 (by decide) ?_
      refine x_goI (wn := [(bf, .inl (g.2 0, 28, .inl f)), (bk, .inl (g.2 0, 12, .inl k)), (bt, .inl (g.2 0, 8, .inl t))] ++ (CW g ad q)) (x_rV (As := [.int 1]) X (c_X5_setting l g ad q 1 _) yf_X5_setting yi_X5_setting wM_L_57 ⟨Nat.le_of_ble_eq_true rfl, Nat.le_of_ble_eq_true rfl⟩ hP hD List.perm_append_comm 0 rfl rfl hl rfl rfl (Nat.le_of_ble_eq_true rfl) dL_tower_505 ⟨Nat.zero_le _, Nat.zero_le _⟩) hP hD hS hA List.perm_append_comm (List.Perm.refl _) (fun H locs hP hD hS => ?_)
      refine lv_aload_n hx hb dL_tower_508 rfl (lv_at hl 9 rfl) ?_
      refine lv_iconst (v := 2) hx hb dL_tower_509 (by decide) ?_
      refine x_iald (v := (t 2)) X 2 2 hP rfl rfl (by decide) (Nat.le_of_ble_eq_true rfl) rfl dL_tower_510 ?_
      refine lv_icmp_ne (tgt := 529) hx hb dL_tower_511 (by decide) (fun q9 => absurd (show (kSetting q 1) = (t 2) from S1) q9) (fun c_23 => ?_)
      refine lv_aload_n hx hb dL_tower_514 rfl (lv_at hl 6 rfl) ?_
      refine lv_iconst (v := 2) hx hb dL_tower_515 (by decide) ?_
      refine x_goI (wn := [(bf, .inl (g.2 0, 28, .inl f)), (bk, .inl (g.2 0, 12, .inl k)), (bt, .inl (g.2 0, 8, .inl t))] ++ (CW g ad q)) (x_rV (As := [.int 2]) X (c_X5_setting l g ad q 2 _) yf_X5_setting yi_X5_setting wM_L_57 ⟨Nat.le_of_ble_eq_true rfl, Nat.le_of_ble_eq_true rfl⟩ hP hD List.perm_append_comm 0 rfl rfl hl rfl rfl (Nat.le_of_ble_eq_true rfl) dL_tower_516 ⟨Nat.zero_le _, Nat.zero_le _⟩) hP hD hS hA List.perm_append_comm (List.Perm.refl _) (fun H locs hP hD hS => ?_)
      refine lv_aload_n hx hb dL_tower_519 rfl (lv_at hl 9 rfl) ?_
      refine lv_iconst (v := 3) hx hb dL_tower_520 (by decide) ?_
      refine x_iald (v := (t 3)) X 2 3 hP rfl rfl (by decide) (Nat.le_of_ble_eq_true rfl) rfl dL_tower_521 ?_
      refine lv_icmp_ne (tgt := 529) hx hb dL_tower_522 (by decide) (fun q9 => absurd (show (kSetting q 2) = (t 3) from S2) q9) (fun c_24 => ?_)
      refine lv_iconst (v := 1) hx hb dL_tower_525 (by decide) ?_
      refine lv_goto (tgt := 530) hx hb dL_tower_526 (by decide) ?_
      exact x_zret X hr hlocks rfl hP hD hS rfl dL_tower_530
    | succ n ih =>
      intro m9 u9 hm9 hu9 ls H locs hP hD hS hl
      have hc6 := h.cn6
      refine lv_iload hx hb dL_tower_197 (lv_at hl 0 rfl) ?_
      refine lv_aload_n hx hb dL_tower_199 rfl (lv_at hl 8 rfl) ?_
      refine lv_bipush (v := 7) hx hb dL_tower_200 (by decide) ?_
      refine x_iald (v := (t 7)) X 2 7 hP rfl rfl (by decide) (Nat.le_of_ble_eq_true rfl) rfl dL_tower_202 ?_
      refine lv_icmp_ge (tgt := 254) hx hb dL_tower_203 (by decide) (fun q9 => absurd q9 (show ¬ (t 7) ≤ (nI m9) from (by rw [h.t7]; exact nI_ge (by omega) (by omega)))) (fun c_25 => ?_)
      refine lv_aload_n hx hb dL_tower_206 rfl (lv_at hl 7 rfl) ?_
      refine lv_iconst (v := 2) hx hb dL_tower_207 (by decide) ?_
      refine lv_iload hx hb dL_tower_208 (lv_at hl 0 rfl) ?_
      refine lv_imul hx hb dL_tower_210 ?_
      refine x_iald (v := (k (2 * m9))) X 1 (2 * m9) hP rfl (z_mul rfl rfl) (by omega) (Nat.le_of_ble_eq_true rfl) rfl dL_tower_211 ?_
      refine lv_sipush (v := 1440) hx hb dL_tower_212 (by decide) ?_
      refine lv_iadd hx hb dL_tower_215 ?_
      refine lv_iload hx hb dL_tower_216 (lv_at hl 3 rfl) ?_
      refine lv_isub hx hb dL_tower_218 ?_
      refine lv_sipush (v := 1440) hx hb dL_tower_219 (by decide) ?_
      refine lv_irem hx hb dL_tower_222 (by decide) ?_
      refine lv_istore (lv' := [(11, .int (jrem (((k (2 * m9)) + 1440) - (nI j_1)) 1440)), (10, .int (nI m9)), (9, .int u9), (8, .int (nI w)), (7, .int (nI j_1)), (5, .int b), (0, .ref (ad 8 0)), (1, .ref bf), (2, .ref bk), (3, .ref bt), (4, .int xv)]) hx hb dL_tower_223 hl (by decide) rfl (fun ls hl => ?_)
      refine lv_iload hx hb dL_tower_225 (lv_at hl 1 rfl) ?_
      refine lv_iload hx hb dL_tower_227 (lv_at hl 3 rfl) ?_
      refine lv_icmp_eq (tgt := 244) hx hb dL_tower_229 (by decide) (fun (c_26 : (nI m9) = (nI w)) => ?_) (fun (c_26 : ¬ (nI m9) = (nI w)) => ?_)
      · refine lv_iload hx hb dL_tower_244 (lv_at hl 2 rfl) ?_
        refine lv_istore (lv' := [(9, .int u9), (11, .int (jrem (((k (2 * m9)) + 1440) - (nI j_1)) 1440)), (10, .int (nI m9)), (8, .int (nI w)), (7, .int (nI j_1)), (5, .int b), (0, .ref (ad 8 0)), (1, .ref bf), (2, .ref bk), (3, .ref bt), (4, .int xv)]) hx hb dL_tower_246 hl (by decide) rfl (fun ls hl => ?_)
        refine lv_iinc (v := (nI (m9 + 1))) (lv' := [(10, .int (nI (m9 + 1))), (9, .int u9), (11, .int (jrem (((k (2 * m9)) + 1440) - (nI j_1)) 1440)), (8, .int (nI w)), (7, .int (nI j_1)), (5, .int b), (0, .ref (ad 8 0)), (1, .ref bf), (2, .ref bk), (3, .ref bt), (4, .int xv)]) hx hb dL_tower_248 hl (k := 2) rfl (nI_add _ 1) (by decide) rfl (fun ls hl => ?_)
        refine lv_goto (tgt := 197) hx hb dL_tower_251 (by decide) ?_
        exact ih (m9 + 1) u9 (by omega) (by rw [← hu9]; exact (if_pos c_26).symm) ls _ _ hP hD hS (lv_sub hl [0, 1, 3, 4, 5, 6, 7, 8, 9, 10] rfl)
      · refine lv_iload hx hb dL_tower_232 (lv_at hl 0 rfl) ?_
        refine lv_iload hx hb dL_tower_234 (lv_at hl 2 rfl) ?_
        refine lv_icmp_ge (tgt := 244) hx hb dL_tower_236 (by decide) (fun (c_27 : u9 ≤ (jrem (((k (2 * m9)) + 1440) - (nI j_1)) 1440)) => ?_) (fun (c_27 : ¬ u9 ≤ (jrem (((k (2 * m9)) + 1440) - (nI j_1)) 1440)) => ?_)
        · refine lv_iload hx hb dL_tower_244 (lv_at hl 2 rfl) ?_
          refine lv_istore (lv' := [(9, .int u9), (11, .int (jrem (((k (2 * m9)) + 1440) - (nI j_1)) 1440)), (10, .int (nI m9)), (8, .int (nI w)), (7, .int (nI j_1)), (5, .int b), (0, .ref (ad 8 0)), (1, .ref bf), (2, .ref bk), (3, .ref bt), (4, .int xv)]) hx hb dL_tower_246 hl (by decide) rfl (fun ls hl => ?_)
          refine lv_iinc (v := (nI (m9 + 1))) (lv' := [(10, .int (nI (m9 + 1))), (9, .int u9), (11, .int (jrem (((k (2 * m9)) + 1440) - (nI j_1)) 1440)), (8, .int (nI w)), (7, .int (nI j_1)), (5, .int b), (0, .ref (ad 8 0)), (1, .ref bf), (2, .ref bk), (3, .ref bt), (4, .int xv)]) hx hb dL_tower_248 hl (k := 2) rfl (nI_add _ 1) (by decide) rfl (fun ls hl => ?_)
          refine lv_goto (tgt := 197) hx hb dL_tower_251 (by decide) ?_
          exact ih (m9 + 1) u9 (by omega) (by rw [← hu9]; exact ((if_neg c_26).trans (if_pos c_27)).symm) ls _ _ hP hD hS (lv_sub hl [0, 1, 3, 4, 5, 6, 7, 8, 9, 10] rfl)
        · refine lv_iload hx hb dL_tower_239 (lv_at hl 0 rfl) ?_
          refine lv_goto (tgt := 246) hx hb dL_tower_241 (by decide) ?_
          refine lv_istore (lv' := [(9, .int (jrem (((k (2 * m9)) + 1440) - (nI j_1)) 1440)), (11, .int (jrem (((k (2 * m9)) + 1440) - (nI j_1)) 1440)), (10, .int (nI m9)), (8, .int (nI w)), (7, .int (nI j_1)), (5, .int b), (0, .ref (ad 8 0)), (1, .ref bf), (2, .ref bk), (3, .ref bt), (4, .int xv)]) hx hb dL_tower_246 hl (by decide) rfl (fun ls hl => ?_)
          refine lv_iinc (v := (nI (m9 + 1))) (lv' := [(10, .int (nI (m9 + 1))), (9, .int (jrem (((k (2 * m9)) + 1440) - (nI j_1)) 1440)), (11, .int (jrem (((k (2 * m9)) + 1440) - (nI j_1)) 1440)), (8, .int (nI w)), (7, .int (nI j_1)), (5, .int b), (0, .ref (ad 8 0)), (1, .ref bf), (2, .ref bk), (3, .ref bt), (4, .int xv)]) hx hb dL_tower_248 hl (k := 2) rfl (nI_add _ 1) (by decide) rfl (fun ls hl => ?_)
          refine lv_goto (tgt := 197) hx hb dL_tower_251 (by decide) ?_
          exact ih (m9 + 1) (jrem (((k (2 * m9)) + 1440) - (nI j_1)) 1440) (by omega) (by rw [← hu9]; exact ((if_neg c_26).trans (if_neg c_27)).symm) ls _ _ hP hD hS (lv_sub hl [0, 1, 3, 4, 5, 6, 7, 8, 9, 10] rfl)
  | succ n ih =>
    intro i b mm hk ht ls H locs hP hD hS hl
    refine lv_iload hx hb dL_tower_9 (lv_at hl 0 rfl) ?_
    refine lv_iconst (v := 4) hx hb dL_tower_11 (by decide) ?_
    refine lv_icmp_ge (tgt := 170) hx hb dL_tower_12 (by decide) (fun q9 => absurd q9 (show ¬ 4 ≤ (nI i) from (nI_ge (b := 4) (by omega) (by omega)))) (fun c_28 => ?_)
    refine lv_iconst (v := 0) hx hb dL_tower_15 (by decide) ?_
    refine lv_istore (lv' := [(8, .int 0), (7, .int (nI i)), (5, .int b), (6, .int mm), (0, .ref (ad 8 0)), (1, .ref bf), (2, .ref bk), (3, .ref bt), (4, .int xv)]) hx hb dL_tower_16 hl (by decide) rfl (fun ls hl => ?_)
    refine lv_iconst (v := 0) hx hb dL_tower_18 (by decide) ?_
    refine lv_istore (lv' := [(9, .int 0), (8, .int 0), (7, .int (nI i)), (5, .int b), (6, .int mm), (0, .ref (ad 8 0)), (1, .ref bf), (2, .ref bk), (3, .ref bt), (4, .int xv)]) hx hb dL_tower_19 hl (by decide) rfl (fun ls hl => ?_)
    suffices LP21 : ∀ (n : Nat) (j : Nat), j + n = 7 → ∀ (ls : Array Slot) (H : Heap) (locs : List Loc), va_P g.1 vwCl ([(bf, .inl (g.2 0, 28, .inl f)), (bk, .inl (g.2 0, 12, .inl k)), (bt, .inl (g.2 0, 8, .inl t))] ++ (CW g ad q)) H → va_D A ([(bf, .inl (g.2 0, 28, .inl f)), (bk, .inl (g.2 0, 12, .inl k)), (bt, .inl (g.2 0, 8, .inl t))] ++ (CW g ad q)) → va_S A s.heap H locs → lv_has ls 12 [(9, .int (nI j)), (8, .int 0), (7, .int (nI i)), (5, .int b), (6, .int mm), (0, .ref (ad 8 0)), (1, .ref bf), (2, .ref bk), (3, .ref bt), (4, .int xv)] → W p l e (rmD 4) s m args below meth c H locs 0 0 (MQ below (QI g A 1 (LW g bf bk bt f k t ++ CW g ad q)) args s 0 0 A) (F0 m 21 ls []) from LP21 7 0 rfl ls _ _ hP hD hS (lv_sub hl [0, 1, 2, 3, 4, 5, 6, 7, 8, 9] rfl)
    intro n
    induction n with
    | zero =>
      intro j hj ls H locs hP hD hS hl
      refine lv_iload hx hb dL_tower_21 (lv_at hl 0 rfl) ?_
      refine lv_bipush (v := 7) hx hb dL_tower_23 (by decide) ?_
      refine lv_icmp_ge (tgt := 57) hx hb dL_tower_25 (by decide) (fun c_29 => ?_) (fun q9 => absurd (show 7 ≤ (nI j) from (nI_le (a := 7) (by omega) (by omega))) (show ¬ (7 ≤ (nI j)) from q9))
      refine lv_iconst (v := 0) hx hb dL_tower_57 (by decide) ?_
      refine lv_istore (lv' := [(9, .int 0), (8, .int 0), (7, .int (nI i)), (5, .int b), (6, .int mm), (0, .ref (ad 8 0)), (1, .ref bf), (2, .ref bk), (3, .ref bt), (4, .int xv)]) hx hb dL_tower_58 hl (by decide) rfl (fun ls hl => ?_)
      suffices LP60 : ∀ (n : Nat) (o : Nat) (u : Int32), o + 7 * n = 28 → smI f (f (7 * i)) n o u = smI f (f (7 * i)) 4 0 0 → ∀ (ls : Array Slot) (H : Heap) (locs : List Loc), va_P g.1 vwCl ([(bf, .inl (g.2 0, 28, .inl f)), (bk, .inl (g.2 0, 12, .inl k)), (bt, .inl (g.2 0, 8, .inl t))] ++ (CW g ad q)) H → va_D A ([(bf, .inl (g.2 0, 28, .inl f)), (bk, .inl (g.2 0, 12, .inl k)), (bt, .inl (g.2 0, 8, .inl t))] ++ (CW g ad q)) → va_S A s.heap H locs → lv_has ls 12 [(9, .int (nI o)), (8, .int u), (7, .int (nI i)), (5, .int b), (6, .int mm), (0, .ref (ad 8 0)), (1, .ref bf), (2, .ref bk), (3, .ref bt), (4, .int xv)] → W p l e (rmD 4) s m args below meth c H locs 0 0 (MQ below (QI g A 1 (LW g bf bk bt f k t ++ CW g ad q)) args s 0 0 A) (F0 m 60 ls []) from LP60 4 0 0 rfl rfl ls _ _ hP hD hS (lv_sub hl [0, 1, 2, 3, 4, 5, 6, 7, 8, 9] rfl)
      intro n
      induction n with
      | zero =>
        intro o u ho hu ls H locs hP hD hS hl
        have eu : u = smI f (f (7 * i)) 4 0 0 := hu
        refine lv_iload hx hb dL_tower_60 (lv_at hl 0 rfl) ?_
        refine lv_bipush (v := 28) hx hb dL_tower_62 (by decide) ?_
        refine lv_icmp_ge (tgt := 97) hx hb dL_tower_64 (by decide) (fun c_30 => ?_) (fun q9 => absurd (show 28 ≤ (nI o) from (nI_le (a := 28) (by omega) (by omega))) (show ¬ (28 ≤ (nI o)) from q9))
        refine lv_iload hx hb dL_tower_97 (lv_at hl 1 rfl) ?_
        refine lv_iload hx hb dL_tower_99 (lv_at hl 4 rfl) ?_
        refine lv_icmp_le (tgt := 114) hx hb dL_tower_101 (by decide) (fun (c_31 : u ≤ mm) => ?_) (fun (c_31 : ¬ u ≤ mm) => ?_)
        · refine lv_iload hx hb dL_tower_114 (lv_at hl 3 rfl) ?_
          refine lv_istore (lv' := [(5, .int b), (9, .int (nI o)), (8, .int u), (7, .int (nI i)), (6, .int mm), (0, .ref (ad 8 0)), (1, .ref bf), (2, .ref bk), (3, .ref bt), (4, .int xv)]) hx hb dL_tower_116 hl (by decide) rfl (fun ls hl => ?_)
          refine lv_iload hx hb dL_tower_118 (lv_at hl 2 rfl) ?_
          refine lv_iload hx hb dL_tower_120 (lv_at hl 4 rfl) ?_
          refine lv_icmp_le (tgt := 130) hx hb dL_tower_122 (by decide) (fun c_32 => ?_) (fun q9 => absurd (show u ≤ mm from c_31) (show ¬ (u ≤ mm) from q9))
          refine lv_iload hx hb dL_tower_130 (lv_at hl 4 rfl) ?_
          refine lv_istore (lv' := [(6, .int mm), (5, .int b), (9, .int (nI o)), (8, .int u), (7, .int (nI i)), (0, .ref (ad 8 0)), (1, .ref bf), (2, .ref bk), (3, .ref bt), (4, .int xv)]) hx hb dL_tower_132 hl (by decide) rfl (fun ls hl => ?_)
          refine lv_aload_n hx hb dL_tower_134 rfl (lv_at hl 5 rfl) ?_
          refine lv_iload hx hb dL_tower_135 (lv_at hl 4 rfl) ?_
          refine lv_bipush (v := 7) hx hb dL_tower_137 (by decide) ?_
          refine x_goI (wn := [(bf, .inl (g.2 0, 28, .inl f)), (bk, .inl (g.2 0, 12, .inl k)), (bt, .inl (g.2 0, 8, .inl t))] ++ (CW g ad q)) (x_rV (As := [.int (nI i), .int 7]) X (c_X5_face l g ad q (nI i) 7 _) yf_X5_face yi_X5_face wM_L_28 ⟨Nat.le_of_ble_eq_true rfl, Nat.le_of_ble_eq_true rfl⟩ hP hD List.perm_append_comm 0 rfl rfl hl rfl rfl (Nat.le_of_ble_eq_true rfl) dL_tower_139 ⟨Nat.zero_le _, Nat.zero_le _⟩) hP hD hS hA List.perm_append_comm (List.Perm.refl _) (fun H locs hP hD hS => ?_)
          refine lv_aload_n hx hb dL_tower_142 rfl (lv_at hl 6 rfl) ?_
          refine lv_bipush (v := 7) hx hb dL_tower_143 (by decide) ?_
          refine lv_iload hx hb dL_tower_145 (lv_at hl 4 rfl) ?_
          refine lv_imul hx hb dL_tower_147 ?_
          refine x_iald (v := (f (7 * i))) X 0 (7 * i) hP rfl (z_mul rfl rfl) (by omega) (Nat.le_of_ble_eq_true rfl) rfl dL_tower_148 ?_
          refine lv_aload_n hx hb dL_tower_149 rfl (lv_at hl 8 rfl) ?_
          refine lv_iconst (v := 0) hx hb dL_tower_150 (by decide) ?_
          refine x_iald (v := (t 0)) X 2 0 hP rfl rfl (by decide) (Nat.le_of_ble_eq_true rfl) rfl dL_tower_151 ?_
          refine lv_sipush (v := 720) hx hb dL_tower_152 (by decide) ?_
          refine lv_irem hx hb dL_tower_155 (by decide) ?_
          refine x_goI (wn := [(bf, .inl (g.2 0, 28, .inl f)), (bk, .inl (g.2 0, 12, .inl k)), (bt, .inl (g.2 0, 8, .inl t))] ++ (CW g ad q)) (x_rS (As := [.int (f (7 * i)), .int (jrem (t 0) 720)]) X (c_L_apart l g (f (7 * i)) (jrem (t 0) 720) (h.fd i (by omega)) (h.dt ht9) _) yf_L_apart ys_L_apart wM_L_20 ⟨Nat.le_of_ble_eq_true rfl, Nat.le_of_ble_eq_true rfl⟩ hP hD (p_none _) hl rfl rfl (Nat.le_of_ble_eq_true rfl) dL_tower_156 ⟨Nat.zero_le _, Nat.zero_le _⟩) hP hD hS hA (p_none _) (p_noneB _) (fun H locs hP hD hS => ?_)
          refine lv_icmp_eq (tgt := 164) hx hb dL_tower_159 (by decide) (fun c_33 => ?_) (fun q9 => absurd (show (kFace q (nI i) 7) = (distC (f (7 * i)) (jrem (t 0) 720)) from (l_face7 h (by omega))) (show ¬ ((kFace q (nI i) 7) = (distC (f (7 * i)) (jrem (t 0) 720))) from q9))
          refine lv_iinc (v := (nI (i + 1))) (lv' := [(7, .int (nI (i + 1))), (6, .int mm), (5, .int b), (9, .int (nI o)), (8, .int u), (0, .ref (ad 8 0)), (1, .ref bf), (2, .ref bk), (3, .ref bt), (4, .int xv)]) hx hb dL_tower_164 hl (k := 4) rfl (nI_add _ 1) (by decide) rfl (fun ls hl => ?_)
          refine lv_goto (tgt := 9) hx hb dL_tower_167 (by decide) ?_
          exact ih (i + 1) b mm (by omega) (by rw [← ht]; exact (if_pos (show smI f (f (7 * i)) 4 0 0 ≤ mm from by rw [← eu]; exact c_31)).symm) ls _ _ hP hD hS (lv_sub hl [0, 2, 1, 5, 6, 7, 8, 9] rfl)
        · refine lv_aload_n hx hb dL_tower_104 rfl (lv_at hl 6 rfl) ?_
          refine lv_bipush (v := 7) hx hb dL_tower_105 (by decide) ?_
          refine lv_iload hx hb dL_tower_107 (lv_at hl 2 rfl) ?_
          refine lv_imul hx hb dL_tower_109 ?_
          refine x_iald (v := (f (7 * i))) X 0 (7 * i) hP rfl (z_mul rfl rfl) (by omega) (Nat.le_of_ble_eq_true rfl) rfl dL_tower_110 ?_
          refine lv_goto (tgt := 116) hx hb dL_tower_111 (by decide) ?_
          refine lv_istore (lv' := [(5, .int (f (7 * i))), (9, .int (nI o)), (8, .int u), (7, .int (nI i)), (6, .int mm), (0, .ref (ad 8 0)), (1, .ref bf), (2, .ref bk), (3, .ref bt), (4, .int xv)]) hx hb dL_tower_116 hl (by decide) rfl (fun ls hl => ?_)
          refine lv_iload hx hb dL_tower_118 (lv_at hl 2 rfl) ?_
          refine lv_iload hx hb dL_tower_120 (lv_at hl 4 rfl) ?_
          refine lv_icmp_le (tgt := 130) hx hb dL_tower_122 (by decide) (fun q9 => absurd q9 (show ¬ u ≤ mm from c_31)) (fun c_34 => ?_)
          refine lv_iload hx hb dL_tower_125 (lv_at hl 2 rfl) ?_
          refine lv_goto (tgt := 132) hx hb dL_tower_127 (by decide) ?_
          refine lv_istore (lv' := [(6, .int u), (5, .int (f (7 * i))), (9, .int (nI o)), (8, .int u), (7, .int (nI i)), (0, .ref (ad 8 0)), (1, .ref bf), (2, .ref bk), (3, .ref bt), (4, .int xv)]) hx hb dL_tower_132 hl (by decide) rfl (fun ls hl => ?_)
          refine lv_aload_n hx hb dL_tower_134 rfl (lv_at hl 5 rfl) ?_
          refine lv_iload hx hb dL_tower_135 (lv_at hl 4 rfl) ?_
          refine lv_bipush (v := 7) hx hb dL_tower_137 (by decide) ?_
          refine x_goI (wn := [(bf, .inl (g.2 0, 28, .inl f)), (bk, .inl (g.2 0, 12, .inl k)), (bt, .inl (g.2 0, 8, .inl t))] ++ (CW g ad q)) (x_rV (As := [.int (nI i), .int 7]) X (c_X5_face l g ad q (nI i) 7 _) yf_X5_face yi_X5_face wM_L_28 ⟨Nat.le_of_ble_eq_true rfl, Nat.le_of_ble_eq_true rfl⟩ hP hD List.perm_append_comm 0 rfl rfl hl rfl rfl (Nat.le_of_ble_eq_true rfl) dL_tower_139 ⟨Nat.zero_le _, Nat.zero_le _⟩) hP hD hS hA List.perm_append_comm (List.Perm.refl _) (fun H locs hP hD hS => ?_)
          refine lv_aload_n hx hb dL_tower_142 rfl (lv_at hl 6 rfl) ?_
          refine lv_bipush (v := 7) hx hb dL_tower_143 (by decide) ?_
          refine lv_iload hx hb dL_tower_145 (lv_at hl 4 rfl) ?_
          refine lv_imul hx hb dL_tower_147 ?_
          refine x_iald (v := (f (7 * i))) X 0 (7 * i) hP rfl (z_mul rfl rfl) (by omega) (Nat.le_of_ble_eq_true rfl) rfl dL_tower_148 ?_
          refine lv_aload_n hx hb dL_tower_149 rfl (lv_at hl 8 rfl) ?_
          refine lv_iconst (v := 0) hx hb dL_tower_150 (by decide) ?_
          refine x_iald (v := (t 0)) X 2 0 hP rfl rfl (by decide) (Nat.le_of_ble_eq_true rfl) rfl dL_tower_151 ?_
          refine lv_sipush (v := 720) hx hb dL_tower_152 (by decide) ?_
          refine lv_irem hx hb dL_tower_155 (by decide) ?_
          refine x_goI (wn := [(bf, .inl (g.2 0, 28, .inl f)), (bk, .inl (g.2 0, 12, .inl k)), (bt, .inl (g.2 0, 8, .inl t))] ++ (CW g ad q)) (x_rS (As := [.int (f (7 * i)), .int (jrem (t 0) 720)]) X (c_L_apart l g (f (7 * i)) (jrem (t 0) 720) (h.fd i (by omega)) (h.dt ht9) _) yf_L_apart ys_L_apart wM_L_20 ⟨Nat.le_of_ble_eq_true rfl, Nat.le_of_ble_eq_true rfl⟩ hP hD (p_none _) hl rfl rfl (Nat.le_of_ble_eq_true rfl) dL_tower_156 ⟨Nat.zero_le _, Nat.zero_le _⟩) hP hD hS hA (p_none _) (p_noneB _) (fun H locs hP hD hS => ?_)
          refine lv_icmp_eq (tgt := 164) hx hb dL_tower_159 (by decide) (fun c_35 => ?_) (fun q9 => absurd (show (kFace q (nI i) 7) = (distC (f (7 * i)) (jrem (t 0) 720)) from (l_face7 h (by omega))) (show ¬ ((kFace q (nI i) 7) = (distC (f (7 * i)) (jrem (t 0) 720))) from q9))
          refine lv_iinc (v := (nI (i + 1))) (lv' := [(7, .int (nI (i + 1))), (6, .int u), (5, .int (f (7 * i))), (9, .int (nI o)), (8, .int u), (0, .ref (ad 8 0)), (1, .ref bf), (2, .ref bk), (3, .ref bt), (4, .int xv)]) hx hb dL_tower_164 hl (k := 4) rfl (nI_add _ 1) (by decide) rfl (fun ls hl => ?_)
          refine lv_goto (tgt := 9) hx hb dL_tower_167 (by decide) ?_
          exact ih (i + 1) (f (7 * i)) u (by omega) (by rw [← ht, eu]; exact (if_neg (show ¬ smI f (f (7 * i)) 4 0 0 ≤ mm from by rw [← eu]; exact c_31)).symm) ls _ _ hP hD hS (lv_sub hl [0, 2, 1, 5, 6, 7, 8, 9] rfl)
      | succ n ih =>
        intro o u ho hu ls H locs hP hD hS hl
        refine lv_iload hx hb dL_tower_60 (lv_at hl 0 rfl) ?_
        refine lv_bipush (v := 28) hx hb dL_tower_62 (by decide) ?_
        refine lv_icmp_ge (tgt := 97) hx hb dL_tower_64 (by decide) (fun q9 => absurd q9 (show ¬ 28 ≤ (nI o) from (nI_ge (b := 28) (by omega) (by omega)))) (fun c_36 => ?_)
        refine lv_iload hx hb dL_tower_67 (lv_at hl 1 rfl) ?_
        refine lv_aload_n hx hb dL_tower_69 rfl (lv_at hl 6 rfl) ?_
        refine lv_iload hx hb dL_tower_70 (lv_at hl 0 rfl) ?_
        refine x_iald (v := (f o)) X 0 o hP rfl rfl (by omega) (Nat.le_of_ble_eq_true rfl) rfl dL_tower_72 ?_
        refine lv_aload_n hx hb dL_tower_73 rfl (lv_at hl 6 rfl) ?_
        refine lv_bipush (v := 7) hx hb dL_tower_74 (by decide) ?_
        refine lv_iload hx hb dL_tower_76 (lv_at hl 2 rfl) ?_
        refine lv_imul hx hb dL_tower_78 ?_
        refine x_iald (v := (f (7 * i))) X 0 (7 * i) hP rfl (z_mul rfl rfl) (by omega) (Nat.le_of_ble_eq_true rfl) rfl dL_tower_79 ?_
        refine lv_icmp_ne (tgt := 87) hx hb dL_tower_80 (by decide) (fun (c_37 : ¬ (f o) = (f (7 * i))) => ?_) (fun (c_37 : (f o) = (f (7 * i))) => ?_)
        · refine lv_iconst (v := 0) hx hb dL_tower_87 (by decide) ?_
          refine lv_iadd hx hb dL_tower_88 ?_
          refine lv_istore (lv' := [(8, .int (u + 0)), (9, .int (nI o)), (7, .int (nI i)), (5, .int b), (6, .int mm), (0, .ref (ad 8 0)), (1, .ref bf), (2, .ref bk), (3, .ref bt), (4, .int xv)]) hx hb dL_tower_89 hl (by decide) rfl (fun ls hl => ?_)
          refine lv_iinc (v := (nI (o + 7))) (lv' := [(9, .int (nI (o + 7))), (8, .int (u + 0)), (7, .int (nI i)), (5, .int b), (6, .int mm), (0, .ref (ad 8 0)), (1, .ref bf), (2, .ref bk), (3, .ref bt), (4, .int xv)]) hx hb dL_tower_91 hl (k := 1) rfl (nI_add _ 7) (by decide) rfl (fun ls hl => ?_)
          refine lv_goto (tgt := 60) hx hb dL_tower_94 (by decide) ?_
          exact ih (o + 7) (u + 0) (by omega) (by rw [← hu]; exact (if_neg c_37).symm) ls _ _ hP hD hS (lv_sub hl [0, 1, 2, 3, 4, 5, 6, 7, 8, 9] rfl)
        · refine lv_iconst (v := 1) hx hb dL_tower_83 (by decide) ?_
          refine lv_goto (tgt := 88) hx hb dL_tower_84 (by decide) ?_
          refine lv_iadd hx hb dL_tower_88 ?_
          refine lv_istore (lv' := [(8, .int (u + 1)), (9, .int (nI o)), (7, .int (nI i)), (5, .int b), (6, .int mm), (0, .ref (ad 8 0)), (1, .ref bf), (2, .ref bk), (3, .ref bt), (4, .int xv)]) hx hb dL_tower_89 hl (by decide) rfl (fun ls hl => ?_)
          refine lv_iinc (v := (nI (o + 7))) (lv' := [(9, .int (nI (o + 7))), (8, .int (u + 1)), (7, .int (nI i)), (5, .int b), (6, .int mm), (0, .ref (ad 8 0)), (1, .ref bf), (2, .ref bk), (3, .ref bt), (4, .int xv)]) hx hb dL_tower_91 hl (k := 1) rfl (nI_add _ 7) (by decide) rfl (fun ls hl => ?_)
          refine lv_goto (tgt := 60) hx hb dL_tower_94 (by decide) ?_
          exact ih (o + 7) (u + 1) (by omega) (by rw [← hu]; exact (if_pos c_37).symm) ls _ _ hP hD hS (lv_sub hl [0, 1, 2, 3, 4, 5, 6, 7, 8, 9] rfl)
    | succ n ih =>
      intro j hj ls H locs hP hD hS hl
      refine lv_iload hx hb dL_tower_21 (lv_at hl 0 rfl) ?_
      refine lv_bipush (v := 7) hx hb dL_tower_23 (by decide) ?_
      refine lv_icmp_ge (tgt := 57) hx hb dL_tower_25 (by decide) (fun q9 => absurd q9 (show ¬ 7 ≤ (nI j) from (nI_ge (b := 7) (by omega) (by omega)))) (fun c_38 => ?_)
      refine lv_aload_n hx hb dL_tower_28 rfl (lv_at hl 5 rfl) ?_
      refine lv_iload hx hb dL_tower_29 (lv_at hl 2 rfl) ?_
      refine lv_iload hx hb dL_tower_31 (lv_at hl 0 rfl) ?_
      refine x_goI (wn := [(bf, .inl (g.2 0, 28, .inl f)), (bk, .inl (g.2 0, 12, .inl k)), (bt, .inl (g.2 0, 8, .inl t))] ++ (CW g ad q)) (x_rV (As := [.int (nI i), .int (nI j)]) X (c_X5_face l g ad q (nI i) (nI j) _) yf_X5_face yi_X5_face wM_L_28 ⟨Nat.le_of_ble_eq_true rfl, Nat.le_of_ble_eq_true rfl⟩ hP hD List.perm_append_comm 0 rfl rfl hl rfl rfl (Nat.le_of_ble_eq_true rfl) dL_tower_33 ⟨Nat.zero_le _, Nat.zero_le _⟩) hP hD hS hA List.perm_append_comm (List.Perm.refl _) (fun H locs hP hD hS => ?_)
      refine lv_aload_n hx hb dL_tower_36 rfl (lv_at hl 6 rfl) ?_
      refine lv_bipush (v := 7) hx hb dL_tower_37 (by decide) ?_
      refine lv_iload hx hb dL_tower_39 (lv_at hl 2 rfl) ?_
      refine lv_imul hx hb dL_tower_41 ?_
      refine lv_iload hx hb dL_tower_42 (lv_at hl 0 rfl) ?_
      refine lv_iadd hx hb dL_tower_44 ?_
      refine x_iald (v := (f ((7 * i) + j))) X 0 ((7 * i) + j) hP rfl (z_add (z_mul rfl rfl) rfl) (by omega) (Nat.le_of_ble_eq_true rfl) rfl dL_tower_45 ?_
      refine lv_icmp_eq (tgt := 51) hx hb dL_tower_46 (by decide) (fun c_39 => ?_) (fun q9 => absurd (show (kFace q (nI i) (nI j)) = (f ((7 * i) + j)) from (l_face h (by omega) (by omega))) (show ¬ ((kFace q (nI i) (nI j)) = (f ((7 * i) + j))) from q9))
      refine lv_iinc (v := (nI (j + 1))) (lv' := [(9, .int (nI (j + 1))), (8, .int 0), (7, .int (nI i)), (5, .int b), (6, .int mm), (0, .ref (ad 8 0)), (1, .ref bf), (2, .ref bk), (3, .ref bt), (4, .int xv)]) hx hb dL_tower_51 hl (k := 0) rfl (nI_add _ 1) (by decide) rfl (fun ls hl => ?_)
      refine lv_goto (tgt := 21) hx hb dL_tower_54 (by decide) ?_
      exact ih (j + 1) (by omega) ls _ _ hP hD hS (lv_sub hl [0, 1, 2, 3, 4, 5, 6, 7, 8, 9] rfl)

theorem c_L_tower (l : Launch) (g : wG) (ad : Nat → Nat → Nat) (q : CS) (bf bk bt tm cn : Nat) (f k t : Nat → Int32) (S R : Nat → Nat) (h : RQx tm cn q t f k S R) (ht9 : tm < 2 ^ 30) (xv : Int32) : CtI l g 4 yL_tower cL_tower 12 (some .boolean) [.ref (ad 8 0), .ref bf, .ref bk, .ref bt, .int xv] (LW g bf bk bt f k t ++ CW g ad q) 1 (LW g bf bk bt f k t ++ CW g ad q) := by
  by_cases hc : cn = 0
  · subst hc; exact c_L_tower0 l g ad q bf bk bt tm f k t S R h ht9 xv 1440 rfl
  · exact c_L_tower1 l g ad q bf bk bt tm cn f k t S R h ht9 (by omega) xv
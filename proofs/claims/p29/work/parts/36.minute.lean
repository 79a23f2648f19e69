/-- one face's minute on the law's row, with the strikes so far -/
def tlS (ld : Int32) (o : Nat) (y : RI) : RI := upd y (o + 2) (y (o + 2) + (ld + y (o + 3)))
def tlD (ld : Int32) (o : Nat) (y : RI) : RI := upd (tlS ld o y) o (if tlS ld o y o = 719 then 0 else tlS ld o y o + 1)
def tlN (o : Nat) (y : RI) : Int32 := if y (o + 5) = 0 then 0 else if jrem (y o) 60 ≤ 0 then (if 60 ≤ y o then y o / 60 else 12) else 0
def tlW (o : Nat) (y : RI) : Int32 := if jrem (y (o + 4)) 3 = 0 then (if 9 ≤ y (o + 3) then 0 else 1) else 0
def tlP (o : Nat) (y : RI) : RI := upd (upd y (o + 2) (y (o + 2) - 10 * y (o + 1))) (o + 4) (upd y (o + 2) (y (o + 2) - 10 * y (o + 1)) (o + 4) + 1)
def turnL (ld : Int32) (o : Nat) (y : RI) (q : Int32) : RI × Int32 :=
  if 10 * tlS ld o y (o + 1) ≤ tlS ld o y (o + 2) then (upd (tlP o (tlS ld o y)) (o + 3) (tlP o (tlS ld o y) (o + 3) + tlW o (tlP o (tlS ld o y))), q)
  else (upd (tlD ld o y) (o + 6) (tlD ld o y (o + 6) + tlN o (tlD ld o y)), q + tlN o (tlD ld o y))
def turnsL (ld : Int32) : Nat → Nat → RI → Int32 → Int32 → RI × Int32 × Int32
  | 0, _, y, q, r => (y, q, r)
  | n + 1, o, y, q, r => turnsL ld n (o + 7) (turnL ld o y q).1 (turnL ld o y q).2 (r + (turnL ld o y q).1 (o + 3))
def bkL : Nat → Nat → RI → RI
  | 0, _, y => y
  | n + 1, o, y => bkL n (o + 7) (upd y o (if y o = 0 then 719 else y o - 1))
def ltA (t : RI) : RI := upd t 0 (t 0 + 1)
/-- behind the four faces: their row, the strikes, the drive -/
def ltR (f t : RI) : RI × Int32 × Int32 := turnsL (ltA t 1) 4 0 f 0 (t 1)
def ltB (f t : RI) : RI := upd (ltA t) 4 (ltA t 4 + (ltR f t).2.2)
/-- behind the shaft -/
def lsT (f t : RI) : RI := if ltB f t 4 < ltB f t 3 then ltB f t else upd (upd (ltB f t) 4 0) 5 (upd (ltB f t) 4 0 5 + 1)
def lsF (f t : RI) : RI := if ltB f t 4 < ltB f t 3 then (ltR f t).1 else bkL 4 0 (ltR f t).1
/-- behind noon -/
def lmF (f k t : RI) (w : Nat) : RI := if jrem (lsT f t 0) 1440 = 720 then (if lsT f t 7 ≤ 0 then lsF f t else lrF (lsF f t) k (lsT f t) w) else lsF f t
def lmT (f k t : RI) (w : Nat) : RI := if jrem (lsT f t 0) 1440 = 720 then (if lsT f t 7 ≤ 0 then lsT f t else lrT (lsF f t) k (lsT f t) w) else lsT f t
def lmR (f t : RI) : Int32 := (ltR f t).2.1
set_option maxHeartbeats 4000000 in
set_option maxRecDepth 100000 in
theorem c_L_minute (l : Launch) (g : wG) (bf bk bt cn w : Nat) (f k t : Nat → Int32) (hn9 : jrem (lsT f t 0) 1440 = 720 → ¬ lsT f t 7 ≤ 0 → RK cn (lsF f t) k (lsT f t) w) : CtI l g 3 yL_minute cL_minute 7 (some .int) [.ref bf, .ref bk, .ref bt] ([(bf, .inl (g.2 0, 28, .inl f)), (bk, .inl (g.2 0, 12, .inl k)), (bt, .inl (g.2 0, 8, .inl t))]) (lmR f t) ([(bf, .inl (g.2 0, 28, .inl (lmF f k t w))), (bk, .inl (g.2 0, 12, .inl k)), (bt, .inl (g.2 0, 8, .inl (lmT f k t w)))]) := by
  intro sz
  refine x_enter (Qc := fun A => QI g A (lmR f t) ([(bf, .inl (g.2 0, 28, .inl (lmF f k t w))), (bk, .inl (g.2 0, 12, .inl k)), (bt, .inl (g.2 0, 8, .inl (lmT f k t w)))])) (by decide) (Nat.le_of_ble_eq_true rfl) ?_
  intro p e s m args below meth c X hr hlocks A hA hP hD hS ls hl
  obtain ⟨⟨hx, hb, hml, hown, hts⟩, hK, hN⟩ := id X
  have hl : lv_has ls 7 [(0, .ref bf), (1, .ref bk), (2, .ref bt)] := hl
  refine lv_iconst (v := 0) hx hb dL_minute_0 (by decide) ?_
  refine lv_istore_n (lv' := [(3, .int 0), (0, .ref bf), (1, .ref bk), (2, .ref bt)]) hx hb dL_minute_1 rfl hl (by decide) rfl (fun ls hl => ?_)
  refine lv_aload_n hx hb dL_minute_2 rfl (lv_at hl 3 rfl) ?_
  refine lv_iconst (v := 1) hx hb dL_minute_3 (by decide) ?_
  refine x_iald (v := (t 1)) X 2 1 hP rfl rfl (by decide) (Nat.le_of_ble_eq_true rfl) rfl dL_minute_4 ?_
  refine lv_istore (lv' := [(4, .int (t 1)), (3, .int 0), (0, .ref bf), (1, .ref bk), (2, .ref bt)]) hx hb dL_minute_5 hl (by decide) rfl (fun ls hl => ?_)
  refine lv_aload_n hx hb dL_minute_7 rfl (lv_at hl 4 rfl) ?_
  refine lv_iconst (v := 0) hx hb dL_minute_8 (by decide) ?_
  refine lv_dup2_11 hx hb dL_minute_9 rfl rfl ?_
  refine x_iald (v := (t 0)) X 2 0 hP rfl rfl (by decide) (Nat.le_of_ble_eq_true rfl) rfl dL_minute_10 ?_
  refine lv_iconst (v := 1) hx hb dL_minute_11 (by decide) ?_
  refine lv_iadd hx hb dL_minute_12 ?_
  refine x_iast (ws2 := [(bf, .inl (g.2 0, 28, .inl f)), (bk, .inl (g.2 0, 12, .inl k)), (bt, .inl (g.2 0, 8, .inl (upd t 0 ((t 0) + 1))))]) X 2 0 hP hD hS rfl rfl (by decide) (Nat.le_of_ble_eq_true rfl) rfl dL_minute_13 (fun H locs hP hD hS => ?_)
  refine lv_iconst (v := 0) hx hb dL_minute_14 (by decide) ?_
  refine lv_istore (lv' := [(5, .int 0), (4, .int (t 1)), (3, .int 0), (0, .ref bf), (1, .ref bk), (2, .ref bt)]) hx hb dL_minute_15 hl (by decide) rfl (fun ls hl => ?_)
  suffices LP17 : ∀ (n : Nat) (o : Nat) (y : Nat → Int32) (q : Int32) (r : Int32), o + 7 * n = 28 → turnsL ((upd t 0 ((t 0) + 1)) 1) n o y q r = ltR f t → ∀ (ls : Array Slot) (H : Heap) (locs : List Loc), va_P g.1 vwCl ([(bf, .inl (g.2 0, 28, .inl y)), (bk, .inl (g.2 0, 12, .inl k)), (bt, .inl (g.2 0, 8, .inl (upd t 0 ((t 0) + 1))))]) H → va_D A ([(bf, .inl (g.2 0, 28, .inl y)), (bk, .inl (g.2 0, 12, .inl k)), (bt, .inl (g.2 0, 8, .inl (upd t 0 ((t 0) + 1))))]) → va_S A s.heap H locs → lv_has ls 7 [(5, .int (nI o)), (3, .int q), (4, .int r), (0, .ref bf), (1, .ref bk), (2, .ref bt)] → W p l e (rmD 3) s m args below meth c H locs 0 0 (MQ below (QI g A (lmR f t) ([(bf, .inl (g.2 0, 28, .inl (lmF f k t w))), (bk, .inl (g.2 0, 12, .inl k)), (bt, .inl (g.2 0, 8, .inl (lmT f k t w)))])) args s 0 0 A) (F0 m 17 ls []) from LP17 4 0 f 0 (t 1) rfl rfl ls _ _ hP hD hS (lv_sub hl [0, 2, 1, 3, 4, 5] rfl)
  intro n
  induction n with
  | zero =>
    intro o y q r hk ht ls H locs hP hD hS hl
    refine lv_iload hx hb dL_minute_17 (lv_at hl 0 rfl) ?_
    refine lv_bipush (v := 28) hx hb dL_minute_19 (by decide) ?_
    refine lv_icmp_ge (tgt := 232) hx hb dL_minute_21 (by decide) (fun c_1 => ?_) (fun q9 => absurd (show 28 ≤ (nI o) from (nI_le (a := 28) (by omega) (by omega))) (show ¬ (28 ≤ (nI o)) from q9))
    have ey : y = (ltR f t).1 := by rw [← ht]; rfl
    have eq9 : q = (ltR f t).2.1 := by rw [← ht]; rfl
    have er : r = (ltR f t).2.2 := by rw [← ht]; rfl
    refine lv_aload_n hx hb dL_minute_232 rfl (lv_at hl 5 rfl) ?_
    refine lv_iconst (v := 4) hx hb dL_minute_233 (by decide) ?_
    refine lv_dup2_11 hx hb dL_minute_234 rfl rfl ?_
    refine x_iald (v := ((upd t 0 ((t 0) + 1)) 4)) X 2 4 hP rfl rfl (by decide) (Nat.le_of_ble_eq_true rfl) rfl dL_minute_235 ?_
    refine lv_iload hx hb dL_minute_236 (lv_at hl 2 rfl) ?_
    refine lv_iadd hx hb dL_minute_238 ?_
    refine x_iast (ws2 := [(bf, .inl (g.2 0, 28, .inl y)), (bk, .inl (g.2 0, 12, .inl k)), (bt, .inl (g.2 0, 8, .inl (upd (upd t 0 ((t 0) + 1)) 4 (((upd t 0 ((t 0) + 1)) 4) + r))))]) X 2 4 hP hD hS rfl rfl (by decide) (Nat.le_of_ble_eq_true rfl) rfl dL_minute_239 (fun H locs hP hD hS => ?_)
    refine lv_aload_n hx hb dL_minute_240 rfl (lv_at hl 5 rfl) ?_
    refine lv_iconst (v := 4) hx hb dL_minute_241 (by decide) ?_
    refine x_iald (v := ((upd (upd t 0 ((t 0) + 1)) 4 (((upd t 0 ((t 0) + 1)) 4) + r)) 4)) X 2 4 hP rfl rfl (by decide) (Nat.le_of_ble_eq_true rfl) rfl dL_minute_242 ?_
    refine lv_aload_n hx hb dL_minute_243 rfl (lv_at hl 5 rfl) ?_
    refine lv_iconst (v := 3) hx hb dL_minute_244 (by decide) ?_
    refine x_iald (v := ((upd (upd t 0 ((t 0) + 1)) 4 (((upd t 0 ((t 0) + 1)) 4) + r)) 3)) X 2 3 hP rfl rfl (by decide) (Nat.le_of_ble_eq_true rfl) rfl dL_minute_245 ?_
    refine lv_icmp_lt (tgt := 299) hx hb dL_minute_246 (by decide) (fun (c_2 : ((upd (upd t 0 ((t 0) + 1)) 4 (((upd t 0 ((t 0) + 1)) 4) + r)) 4) < ((upd (upd t 0 ((t 0) + 1)) 4 (((upd t 0 ((t 0) + 1)) 4) + r)) 3)) => ?_) (fun (c_2 : ¬ ((upd (upd t 0 ((t 0) + 1)) 4 (((upd t 0 ((t 0) + 1)) 4) + r)) 4) < ((upd (upd t 0 ((t 0) + 1)) 4 (((upd t 0 ((t 0) + 1)) 4) + r)) 3)) => ?_)
    · have eT : (upd (upd t 0 ((t 0) + 1)) 4 (((upd t 0 ((t 0) + 1)) 4) + r)) = lsT f t := by unfold lsT ltB; rw [← er]; exact (if_pos c_2).symm
      have eF : y = lsF f t := by unfold lsF ltB; rw [← er, ← ey]; exact (if_pos c_2).symm
      have E9 : ([(bf, .inl (g.2 0, 28, .inl y)), (bk, .inl (g.2 0, 12, .inl k)), (bt, .inl (g.2 0, 8, .inl (upd (upd t 0 ((t 0) + 1)) 4 (((upd t 0 ((t 0) + 1)) 4) + r))))] : va_W) = ([(bf, .inl (g.2 0, 28, .inl (lsF f t))), (bk, .inl (g.2 0, 12, .inl k)), (bt, .inl (g.2 0, 8, .inl (lsT f t)))]) := by rw [eT, eF]
      have hP := pw E9 hP
      have hD := dw E9 hD
      refine lv_aload_n hx hb dL_minute_299 rfl (lv_at hl 5 rfl) ?_
      refine lv_iconst (v := 0) hx hb dL_minute_300 (by decide) ?_
      refine x_iald (v := ((lsT f t) 0)) X 2 0 hP rfl rfl (by decide) (Nat.le_of_ble_eq_true rfl) rfl dL_minute_301 ?_
      refine lv_sipush (v := 1440) hx hb dL_minute_302 (by decide) ?_
      refine lv_irem hx hb dL_minute_305 (by decide) ?_
      refine lv_sipush (v := 720) hx hb dL_minute_306 (by decide) ?_
      refine lv_icmp_ne (tgt := 326) hx hb dL_minute_309 (by decide) (fun (c_3 : ¬ (jrem ((lsT f t) 0) 1440) = 720) => ?_) (fun (c_3 : (jrem ((lsT f t) 0) 1440) = 720) => ?_)
      · refine lv_iload_n hx hb dL_minute_326 rfl (lv_at hl 1 rfl) ?_
        have E : ([(bf, .inl (g.2 0, 28, .inl (lsF f t))), (bk, .inl (g.2 0, 12, .inl k)), (bt, .inl (g.2 0, 8, .inl (lsT f t)))] : va_W) = ([(bf, .inl (g.2 0, 28, .inl (lmF f k t w))), (bk, .inl (g.2 0, 12, .inl k)), (bt, .inl (g.2 0, 8, .inl (lmT f k t w)))]) := by simp only [lmF, lmT, if_neg c_3]
        exact x_iret X hr hlocks (pw E hP) (dw E hD) hS eq9 dL_minute_327
      · refine lv_aload_n hx hb dL_minute_312 rfl (lv_at hl 5 rfl) ?_
        refine lv_bipush (v := 7) hx hb dL_minute_313 (by decide) ?_
        refine x_iald (v := ((lsT f t) 7)) X 2 7 hP rfl rfl (by decide) (Nat.le_of_ble_eq_true rfl) rfl dL_minute_315 ?_
        refine lv_if_le (tgt := 326) hx hb dL_minute_316 (by decide) (fun (c_4 : ((lsT f t) 7) ≤ 0) => ?_) (fun (c_4 : ¬ ((lsT f t) 7) ≤ 0) => ?_)
        · refine lv_iload_n hx hb dL_minute_326 rfl (lv_at hl 1 rfl) ?_
          have E : ([(bf, .inl (g.2 0, 28, .inl (lsF f t))), (bk, .inl (g.2 0, 12, .inl k)), (bt, .inl (g.2 0, 8, .inl (lsT f t)))] : va_W) = ([(bf, .inl (g.2 0, 28, .inl (lmF f k t w))), (bk, .inl (g.2 0, 12, .inl k)), (bt, .inl (g.2 0, 8, .inl (lmT f k t w)))]) := by simp only [lmF, lmT, if_pos c_3, if_pos c_4]
          exact x_iret X hr hlocks (pw E hP) (dw E hD) hS eq9 dL_minute_327
        · refine lv_aload_n hx hb dL_minute_319 rfl (lv_at hl 3 rfl) ?_
          refine lv_aload_n hx hb dL_minute_320 rfl (lv_at hl 4 rfl) ?_
          refine lv_aload_n hx hb dL_minute_321 rfl (lv_at hl 5 rfl) ?_
          refine x_goI (wn := [(bf, .inl (g.2 0, 28, .inl (lrF (lsF f t) k (lsT f t) w))), (bk, .inl (g.2 0, 12, .inl k)), (bt, .inl (g.2 0, 8, .inl (lrT (lsF f t) k (lsT f t) w)))]) (x_rS (As := [.ref bf, .ref bk, .ref bt]) X (c_L_reset l g bf bk bt cn w (lsF f t) k (lsT f t) (hn9 c_3 c_4) _) yf_L_reset ys_L_reset wM_L_24 ⟨Nat.le_of_ble_eq_true rfl, Nat.le_of_ble_eq_true rfl⟩ hP hD (p_all _) hl rfl rfl (Nat.le_of_ble_eq_true rfl) dL_minute_322 ⟨Nat.zero_le _, Nat.zero_le _⟩) hP hD hS hA (p_all _) (p_back _) (fun H locs hP hD hS => ?_)
          refine lv_pop hx hb dL_minute_325 rfl ?_
          refine lv_iload_n hx hb dL_minute_326 rfl (lv_at hl 1 rfl) ?_
          have E : ([(bf, .inl (g.2 0, 28, .inl (lrF (lsF f t) k (lsT f t) w))), (bk, .inl (g.2 0, 12, .inl k)), (bt, .inl (g.2 0, 8, .inl (lrT (lsF f t) k (lsT f t) w)))] : va_W) = ([(bf, .inl (g.2 0, 28, .inl (lmF f k t w))), (bk, .inl (g.2 0, 12, .inl k)), (bt, .inl (g.2 0, 8, .inl (lmT f k t w)))]) := by simp only [lmF, lmT, if_pos c_3, if_neg c_4]
          exact x_iret X hr hlocks (pw E hP) (dw E hD) hS eq9 dL_minute_327
    · refine lv_aload_n hx hb dL_minute_249 rfl (lv_at hl 5 rfl) ?_
      refine lv_iconst (v := 4) hx hb dL_minute_250 (by decide) ?_
      refine lv_iconst (v := 0) hx hb dL_minute_251 (by decide) ?_
      refine x_iast (ws2 := [(bf, .inl (g.2 0, 28, .inl y)), (bk, .inl (g.2 0, 12, .inl k)), (bt, .inl (g.2 0, 8, .inl (upd (upd (upd t 0 ((t 0) + 1)) 4 (((upd t 0 ((t 0) + 1)) 4) + r)) 4 0)))]) X 2 4 hP hD hS rfl rfl (by decide) (Nat.le_of_ble_eq_true rfl) rfl dL_minute_252 (fun H locs hP hD hS => ?_)
      refine lv_aload_n hx hb dL_minute_253 rfl (lv_at hl 5 rfl) ?_
      refine lv_iconst (v := 5) hx hb dL_minute_254 (by decide) ?_
      refine lv_dup2_11 hx hb dL_minute_255 rfl rfl ?_
      refine x_iald (v := ((upd (upd (upd t 0 ((t 0) + 1)) 4 (((upd t 0 ((t 0) + 1)) 4) + r)) 4 0) 5)) X 2 5 hP rfl rfl (by decide) (Nat.le_of_ble_eq_true rfl) rfl dL_minute_256 ?_
      refine lv_iconst (v := 1) hx hb dL_minute_257 (by decide) ?_
      refine lv_iadd hx hb dL_minute_258 ?_
      refine x_iast (ws2 := [(bf, .inl (g.2 0, 28, .inl y)), (bk, .inl (g.2 0, 12, .inl k)), (bt, .inl (g.2 0, 8, .inl (upd (upd (upd (upd t 0 ((t 0) + 1)) 4 (((upd t 0 ((t 0) + 1)) 4) + r)) 4 0) 5 (((upd (upd (upd t 0 ((t 0) + 1)) 4 (((upd t 0 ((t 0) + 1)) 4) + r)) 4 0) 5) + 1))))]) X 2 5 hP hD hS rfl rfl (by decide) (Nat.le_of_ble_eq_true rfl) rfl dL_minute_259 (fun H locs hP hD hS => ?_)
      refine lv_iconst (v := 0) hx hb dL_minute_260 (by decide) ?_
      refine lv_istore (lv' := [(5, .int 0), (3, .int q), (4, .int r), (0, .ref bf), (1, .ref bk), (2, .ref bt)]) hx hb dL_minute_261 hl (by decide) rfl (fun ls hl => ?_)
      suffices LP263 : ∀ (n : Nat) (o : Nat) (z9 : Nat → Int32), o + 7 * n = 28 → bkL n o z9 = bkL 4 0 y → ∀ (ls : Array Slot) (H : Heap) (locs : List Loc), va_P g.1 vwCl ([(bf, .inl (g.2 0, 28, .inl z9)), (bk, .inl (g.2 0, 12, .inl k)), (bt, .inl (g.2 0, 8, .inl (upd (upd (upd (upd t 0 ((t 0) + 1)) 4 (((upd t 0 ((t 0) + 1)) 4) + r)) 4 0) 5 (((upd (upd (upd t 0 ((t 0) + 1)) 4 (((upd t 0 ((t 0) + 1)) 4) + r)) 4 0) 5) + 1))))]) H → va_D A ([(bf, .inl (g.2 0, 28, .inl z9)), (bk, .inl (g.2 0, 12, .inl k)), (bt, .inl (g.2 0, 8, .inl (upd (upd (upd (upd t 0 ((t 0) + 1)) 4 (((upd t 0 ((t 0) + 1)) 4) + r)) 4 0) 5 (((upd (upd (upd t 0 ((t 0) + 1)) 4 (((upd t 0 ((t 0) + 1)) 4) + r)) 4 0) 5) + 1))))]) → va_S A s.heap H locs → lv_has ls 7 [(5, .int (nI o)), (3, .int q), (0, .ref bf), (1, .ref bk), (2, .ref bt)] → W p l e (rmD 3) s m args below meth c H locs 0 0 (MQ below (QI g A (lmR f t) ([(bf, .inl (g.2 0, 28, .inl (lmF f k t w))), (bk, .inl (g.2 0, 12, .inl k)), (bt, .inl (g.2 0, 8, .inl (lmT f k t w)))])) args s 0 0 A) (F0 m 263 ls []) from LP263 4 0 y rfl rfl ls _ _ hP hD hS (lv_sub hl [0, 1, 3, 4, 5] rfl)
      intro n
      induction n with
      | zero =>
        intro o z9 hk2 hb9 ls H locs hP hD hS hl
        have hb9 : z9 = bkL 4 0 y := hb9
        refine lv_iload hx hb dL_minute_263 (lv_at hl 0 rfl) ?_
        refine lv_bipush (v := 28) hx hb dL_minute_265 (by decide) ?_
        refine lv_icmp_ge (tgt := 299) hx hb dL_minute_267 (by decide) (fun c_5 => ?_) (fun q9 => absurd (show 28 ≤ (nI o) from (nI_le (a := 28) (by omega) (by omega))) (show ¬ (28 ≤ (nI o)) from q9))
        have eT : (upd (upd (upd (upd t 0 ((t 0) + 1)) 4 (((upd t 0 ((t 0) + 1)) 4) + r)) 4 0) 5 (((upd (upd (upd t 0 ((t 0) + 1)) 4 (((upd t 0 ((t 0) + 1)) 4) + r)) 4 0) 5) + 1)) = lsT f t := by unfold lsT ltB; rw [← er]; exact (if_neg c_2).symm
        have eF : z9 = lsF f t := by unfold lsF ltB; rw [← er, ← ey, ← hb9]; exact (if_neg c_2).symm
        have E9 : ([(bf, .inl (g.2 0, 28, .inl z9)), (bk, .inl (g.2 0, 12, .inl k)), (bt, .inl (g.2 0, 8, .inl (upd (upd (upd (upd t 0 ((t 0) + 1)) 4 (((upd t 0 ((t 0) + 1)) 4) + r)) 4 0) 5 (((upd (upd (upd t 0 ((t 0) + 1)) 4 (((upd t 0 ((t 0) + 1)) 4) + r)) 4 0) 5) + 1))))] : va_W) = ([(bf, .inl (g.2 0, 28, .inl (lsF f t))), (bk, .inl (g.2 0, 12, .inl k)), (bt, .inl (g.2 0, 8, .inl (lsT f t)))]) := by rw [eT, eF]
        have hP := pw E9 hP
        have hD := dw E9 hD
        refine lv_aload_n hx hb dL_minute_299 rfl (lv_at hl 4 rfl) ?_
        refine lv_iconst (v := 0) hx hb dL_minute_300 (by decide) ?_
        refine x_iald (v := ((lsT f t) 0)) X 2 0 hP rfl rfl (by decide) (Nat.le_of_ble_eq_true rfl) rfl dL_minute_301 ?_
        refine lv_sipush (v := 1440) hx hb dL_minute_302 (by decide) ?_
        refine lv_irem hx hb dL_minute_305 (by decide) ?_
        refine lv_sipush (v := 720) hx hb dL_minute_306 (by decide) ?_
        refine lv_icmp_ne (tgt := 326) hx hb dL_minute_309 (by decide) (fun (c_6 : ¬ (jrem ((lsT f t) 0) 1440) = 720) => ?_) (fun (c_6 : (jrem ((lsT f t) 0) 1440) = 720) => ?_)
        · refine lv_iload_n hx hb dL_minute_326 rfl (lv_at hl 1 rfl) ?_
          have E : ([(bf, .inl (g.2 0, 28, .inl (lsF f t))), (bk, .inl (g.2 0, 12, .inl k)), (bt, .inl (g.2 0, 8, .inl (lsT f t)))] : va_W) = ([(bf, .inl (g.2 0, 28, .inl (lmF f k t w))), (bk, .inl (g.2 0, 12, .inl k)), (bt, .inl (g.2 0, 8, .inl (lmT f k t w)))]) := by simp only [lmF, lmT, if_neg c_6]
          exact x_iret X hr hlocks (pw E hP) (dw E hD) hS eq9 dL_minute_327
        · refine lv_aload_n hx hb dL_minute_312 rfl (lv_at hl 4 rfl) ?_
          refine lv_bipush (v := 7) hx hb dL_minute_313 (by decide) ?_
          refine x_iald (v := ((lsT f t) 7)) X 2 7 hP rfl rfl (by decide) (Nat.le_of_ble_eq_true rfl) rfl dL_minute_315 ?_
          refine lv_if_le (tgt := 326) hx hb dL_minute_316 (by decide) (fun (c_7 : ((lsT f t) 7) ≤ 0) => ?_) (fun (c_7 : ¬ ((lsT f t) 7) ≤ 0) => ?_)
          · refine lv_iload_n hx hb dL_minute_326 rfl (lv_at hl 1 rfl) ?_
            have E : ([(bf, .inl (g.2 0, 28, .inl (lsF f t))), (bk, .inl (g.2 0, 12, .inl k)), (bt, .inl (g.2 0, 8, .inl (lsT f t)))] : va_W) = ([(bf, .inl (g.2 0, 28, .inl (lmF f k t w))), (bk, .inl (g.2 0, 12, .inl k)), (bt, .inl (g.2 0, 8, .inl (lmT f k t w)))]) := by simp only [lmF, lmT, if_pos c_6, if_pos c_7]
            exact x_iret X hr hlocks (pw E hP) (dw E hD) hS eq9 dL_minute_327
          · refine lv_aload_n hx hb dL_minute_319 rfl (lv_at hl 2 rfl) ?_
            refine lv_aload_n hx hb dL_minute_320 rfl (lv_at hl 3 rfl) ?_
            refine lv_aload_n hx hb dL_minute_321 rfl (lv_at hl 4 rfl) ?_
            refine x_goI (wn := [(bf, .inl (g.2 0, 28, .inl (lrF (lsF f t) k (lsT f t) w))), (bk, .inl (g.2 0, 12, .inl k)), (bt, .inl (g.2 0, 8, .inl (lrT (lsF f t) k (lsT f t) w)))]) (x_rS (As := [.ref bf, .ref bk, .ref bt]) X (c_L_reset l g bf bk bt cn w (lsF f t) k (lsT f t) (hn9 c_6 c_7) _) yf_L_reset ys_L_reset wM_L_24 ⟨Nat.le_of_ble_eq_true rfl, Nat.le_of_ble_eq_true rfl⟩ hP hD (p_all _) hl rfl rfl (Nat.le_of_ble_eq_true rfl) dL_minute_322 ⟨Nat.zero_le _, Nat.zero_le _⟩) hP hD hS hA (p_all _) (p_back _) (fun H locs hP hD hS => ?_)
            refine lv_pop hx hb dL_minute_325 rfl ?_
            refine lv_iload_n hx hb dL_minute_326 rfl (lv_at hl 1 rfl) ?_
            have E : ([(bf, .inl (g.2 0, 28, .inl (lrF (lsF f t) k (lsT f t) w))), (bk, .inl (g.2 0, 12, .inl k)), (bt, .inl (g.2 0, 8, .inl (lrT (lsF f t) k (lsT f t) w)))] : va_W) = ([(bf, .inl (g.2 0, 28, .inl (lmF f k t w))), (bk, .inl (g.2 0, 12, .inl k)), (bt, .inl (g.2 0, 8, .inl (lmT f k t w)))]) := by simp only [lmF, lmT, if_pos c_6, if_neg c_7]
            exact x_iret X hr hlocks (pw E hP) (dw E hD) hS eq9 dL_minute_327
      | succ n ih =>
        intro o z9 hk2 hb9 ls H locs hP hD hS hl
        refine lv_iload hx hb dL_minute_263 (lv_at hl 0 rfl) ?_
        refine lv_bipush (v := 28) hx hb dL_minute_265 (by decide) ?_
        refine lv_icmp_ge (tgt := 299) hx hb dL_minute_267 (by decide) (fun q9 => absurd q9 (show ¬ 28 ≤ (nI o) from (nI_ge (b := 28) (by omega) (by omega)))) (fun c_8 => ?_)
        refine lv_aload_n hx hb dL_minute_270 rfl (lv_at hl 2 rfl) ?_
        refine lv_iload hx hb dL_minute_271 (lv_at hl 0 rfl) ?_
        refine lv_aload_n hx hb dL_minute_273 rfl (lv_at hl 2 rfl) ?_
        refine lv_iload hx hb dL_minute_274 (lv_at hl 0 rfl) ?_
        refine x_iald (v := (z9 o)) X 0 o hP rfl rfl (by omega) (Nat.le_of_ble_eq_true rfl) rfl dL_minute_276 ?_
        refine lv_if_ne (tgt := 286) hx hb dL_minute_277 (by decide) (fun (c_9 : ¬ (z9 o) = 0) => ?_) (fun (c_9 : (z9 o) = 0) => ?_)
        · refine lv_aload_n hx hb dL_minute_286 rfl (lv_at hl 2 rfl) ?_
          refine lv_iload hx hb dL_minute_287 (lv_at hl 0 rfl) ?_
          refine x_iald (v := (z9 o)) X 0 o hP rfl rfl (by omega) (Nat.le_of_ble_eq_true rfl) rfl dL_minute_289 ?_
          refine lv_iconst (v := 1) hx hb dL_minute_290 (by decide) ?_
          refine lv_isub hx hb dL_minute_291 ?_
          refine x_iast (ws2 := [(bf, .inl (g.2 0, 28, .inl (upd z9 o ((z9 o) - 1)))), (bk, .inl (g.2 0, 12, .inl k)), (bt, .inl (g.2 0, 8, .inl (upd (upd (upd (upd t 0 ((t 0) + 1)) 4 (((upd t 0 ((t 0) + 1)) 4) + r)) 4 0) 5 (((upd (upd (upd t 0 ((t 0) + 1)) 4 (((upd t 0 ((t 0) + 1)) 4) + r)) 4 0) 5) + 1))))]) X 0 o hP hD hS rfl rfl (by omega) (Nat.le_of_ble_eq_true rfl) rfl dL_minute_292 (fun H locs hP hD hS => ?_)
          refine lv_iinc (v := (nI (o + 7))) (lv' := [(5, .int (nI (o + 7))), (3, .int q), (0, .ref bf), (1, .ref bk), (2, .ref bt)]) hx hb dL_minute_293 hl (k := 0) rfl (nI_add _ 7) (by decide) rfl (fun ls hl => ?_)
          refine lv_goto (tgt := 263) hx hb dL_minute_296 (by decide) ?_
          exact ih (o + 7) (upd z9 o ((z9 o) - 1)) (by omega) (by rw [← hb9]; simp only [bkL, if_neg c_9]) ls _ _ hP hD hS (lv_sub hl [0, 1, 2, 3, 4] rfl)
        · refine lv_sipush (v := 719) hx hb dL_minute_280 (by decide) ?_
          refine lv_goto (tgt := 292) hx hb dL_minute_283 (by decide) ?_
          refine x_iast (ws2 := [(bf, .inl (g.2 0, 28, .inl (upd z9 o 719))), (bk, .inl (g.2 0, 12, .inl k)), (bt, .inl (g.2 0, 8, .inl (upd (upd (upd (upd t 0 ((t 0) + 1)) 4 (((upd t 0 ((t 0) + 1)) 4) + r)) 4 0) 5 (((upd (upd (upd t 0 ((t 0) + 1)) 4 (((upd t 0 ((t 0) + 1)) 4) + r)) 4 0) 5) + 1))))]) X 0 o hP hD hS rfl rfl (by omega) (Nat.le_of_ble_eq_true rfl) rfl dL_minute_292 (fun H locs hP hD hS => ?_)
          refine lv_iinc (v := (nI (o + 7))) (lv' := [(5, .int (nI (o + 7))), (3, .int q), (0, .ref bf), (1, .ref bk), (2, .ref bt)]) hx hb dL_minute_293 hl (k := 0) rfl (nI_add _ 7) (by decide) rfl (fun ls hl => ?_)
          refine lv_goto (tgt := 263) hx hb dL_minute_296 (by decide) ?_
          exact ih (o + 7) (upd z9 o 719) (by omega) (by rw [← hb9]; simp only [bkL, if_pos c_9]) ls _ _ hP hD hS (lv_sub hl [0, 1, 2, 3, 4] rfl)
  | succ n ih =>
    intro o y q r hk ht ls H locs hP hD hS hl
    refine lv_iload hx hb dL_minute_17 (lv_at hl 0 rfl) ?_
    refine lv_bipush (v := 28) hx hb dL_minute_19 (by decide) ?_
    refine lv_icmp_ge (tgt := 232) hx hb dL_minute_21 (by decide) (fun q9 => absurd q9 (show ¬ 28 ≤ (nI o) from (nI_ge (b := 28) (by omega) (by omega)))) (fun c_10 => ?_)
    refine lv_aload_n hx hb dL_minute_24 rfl (lv_at hl 3 rfl) ?_
    refine lv_iload hx hb dL_minute_25 (lv_at hl 0 rfl) ?_
    refine lv_iconst (v := 2) hx hb dL_minute_27 (by decide) ?_
    refine lv_iadd hx hb dL_minute_28 ?_
    refine lv_dup2_11 hx hb dL_minute_29 rfl rfl ?_
    refine x_iald (v := (y (o + 2))) X 0 (o + 2) hP rfl (z_add rfl rfl) (by omega) (Nat.le_of_ble_eq_true rfl) rfl dL_minute_30 ?_
    refine lv_aload_n hx hb dL_minute_31 rfl (lv_at hl 5 rfl) ?_
    refine lv_iconst (v := 1) hx hb dL_minute_32 (by decide) ?_
    refine x_iald (v := ((upd t 0 ((t 0) + 1)) 1)) X 2 1 hP rfl rfl (by decide) (Nat.le_of_ble_eq_true rfl) rfl dL_minute_33 ?_
    refine lv_aload_n hx hb dL_minute_34 rfl (lv_at hl 3 rfl) ?_
    refine lv_iload hx hb dL_minute_35 (lv_at hl 0 rfl) ?_
    refine lv_iconst (v := 3) hx hb dL_minute_37 (by decide) ?_
    refine lv_iadd hx hb dL_minute_38 ?_
    refine x_iald (v := (y (o + 3))) X 0 (o + 3) hP rfl (z_add rfl rfl) (by omega) (Nat.le_of_ble_eq_true rfl) rfl dL_minute_39 ?_
    refine lv_iadd hx hb dL_minute_40 ?_
    refine lv_iadd hx hb dL_minute_41 ?_
    refine x_iast (ws2 := [(bf, .inl (g.2 0, 28, .inl (upd y (o + 2) ((y (o + 2)) + (((upd t 0 ((t 0) + 1)) 1) + (y (o + 3))))))), (bk, .inl (g.2 0, 12, .inl k)), (bt, .inl (g.2 0, 8, .inl (upd t 0 ((t 0) + 1))))]) X 0 (o + 2) hP hD hS rfl (z_add rfl rfl) (by omega) (Nat.le_of_ble_eq_true rfl) rfl dL_minute_42 (fun H locs hP hD hS => ?_)
    refine lv_aload_n hx hb dL_minute_43 rfl (lv_at hl 3 rfl) ?_
    refine lv_iload hx hb dL_minute_44 (lv_at hl 0 rfl) ?_
    refine lv_iconst (v := 2) hx hb dL_minute_46 (by decide) ?_
    refine lv_iadd hx hb dL_minute_47 ?_
    refine x_iald (v := ((upd y (o + 2) ((y (o + 2)) + (((upd t 0 ((t 0) + 1)) 1) + (y (o + 3))))) (o + 2))) X 0 (o + 2) hP rfl (z_add rfl rfl) (by omega) (Nat.le_of_ble_eq_true rfl) rfl dL_minute_48 ?_
    refine lv_bipush (v := 10) hx hb dL_minute_49 (by decide) ?_
    refine lv_aload_n hx hb dL_minute_51 rfl (lv_at hl 3 rfl) ?_
    refine lv_iload hx hb dL_minute_52 (lv_at hl 0 rfl) ?_
    refine lv_iconst (v := 1) hx hb dL_minute_54 (by decide) ?_
    refine lv_iadd hx hb dL_minute_55 ?_
    refine x_iald (v := ((upd y (o + 2) ((y (o + 2)) + (((upd t 0 ((t 0) + 1)) 1) + (y (o + 3))))) (o + 1))) X 0 (o + 1) hP rfl (z_add rfl rfl) (by omega) (Nat.le_of_ble_eq_true rfl) rfl dL_minute_56 ?_
    refine lv_imul hx hb dL_minute_57 ?_
    refine lv_icmp_ge (tgt := 151) hx hb dL_minute_58 (by decide) (fun (c_11 : (10 * ((upd y (o + 2) ((y (o + 2)) + (((upd t 0 ((t 0) + 1)) 1) + (y (o + 3))))) (o + 1))) ≤ ((upd y (o + 2) ((y (o + 2)) + (((upd t 0 ((t 0) + 1)) 1) + (y (o + 3))))) (o + 2))) => ?_) (fun (c_11 : ¬ (10 * ((upd y (o + 2) ((y (o + 2)) + (((upd t 0 ((t 0) + 1)) 1) + (y (o + 3))))) (o + 1))) ≤ ((upd y (o + 2) ((y (o + 2)) + (((upd t 0 ((t 0) + 1)) 1) + (y (o + 3))))) (o + 2))) => ?_)
    · refine lv_aload_n hx hb dL_minute_151 rfl (lv_at hl 3 rfl) ?_
      refine lv_iload hx hb dL_minute_152 (lv_at hl 0 rfl) ?_
      refine lv_iconst (v := 2) hx hb dL_minute_154 (by decide) ?_
      refine lv_iadd hx hb dL_minute_155 ?_
      refine lv_dup2_11 hx hb dL_minute_156 rfl rfl ?_
      refine x_iald (v := ((upd y (o + 2) ((y (o + 2)) + (((upd t 0 ((t 0) + 1)) 1) + (y (o + 3))))) (o + 2))) X 0 (o + 2) hP rfl (z_add rfl rfl) (by omega) (Nat.le_of_ble_eq_true rfl) rfl dL_minute_157 ?_
      refine lv_bipush (v := 10) hx hb dL_minute_158 (by decide) ?_
      refine lv_aload_n hx hb dL_minute_160 rfl (lv_at hl 3 rfl) ?_
      refine lv_iload hx hb dL_minute_161 (lv_at hl 0 rfl) ?_
      refine lv_iconst (v := 1) hx hb dL_minute_163 (by decide) ?_
      refine lv_iadd hx hb dL_minute_164 ?_
      refine x_iald (v := ((upd y (o + 2) ((y (o + 2)) + (((upd t 0 ((t 0) + 1)) 1) + (y (o + 3))))) (o + 1))) X 0 (o + 1) hP rfl (z_add rfl rfl) (by omega) (Nat.le_of_ble_eq_true rfl) rfl dL_minute_165 ?_
      refine lv_imul hx hb dL_minute_166 ?_
      refine lv_isub hx hb dL_minute_167 ?_
      refine x_iast (ws2 := [(bf, .inl (g.2 0, 28, .inl (upd (upd y (o + 2) ((y (o + 2)) + (((upd t 0 ((t 0) + 1)) 1) + (y (o + 3))))) (o + 2) (((upd y (o + 2) ((y (o + 2)) + (((upd t 0 ((t 0) + 1)) 1) + (y (o + 3))))) (o + 2)) - (10 * ((upd y (o + 2) ((y (o + 2)) + (((upd t 0 ((t 0) + 1)) 1) + (y (o + 3))))) (o + 1))))))), (bk, .inl (g.2 0, 12, .inl k)), (bt, .inl (g.2 0, 8, .inl (upd t 0 ((t 0) + 1))))]) X 0 (o + 2) hP hD hS rfl (z_add rfl rfl) (by omega) (Nat.le_of_ble_eq_true rfl) rfl dL_minute_168 (fun H locs hP hD hS => ?_)
      refine lv_aload_n hx hb dL_minute_169 rfl (lv_at hl 3 rfl) ?_
      refine lv_iload hx hb dL_minute_170 (lv_at hl 0 rfl) ?_
      refine lv_iconst (v := 4) hx hb dL_minute_172 (by decide) ?_
      refine lv_iadd hx hb dL_minute_173 ?_
      refine lv_dup2_11 hx hb dL_minute_174 rfl rfl ?_
      refine x_iald (v := ((upd (upd y (o + 2) ((y (o + 2)) + (((upd t 0 ((t 0) + 1)) 1) + (y (o + 3))))) (o + 2) (((upd y (o + 2) ((y (o + 2)) + (((upd t 0 ((t 0) + 1)) 1) + (y (o + 3))))) (o + 2)) - (10 * ((upd y (o + 2) ((y (o + 2)) + (((upd t 0 ((t 0) + 1)) 1) + (y (o + 3))))) (o + 1))))) (o + 4))) X 0 (o + 4) hP rfl (z_add rfl rfl) (by omega) (Nat.le_of_ble_eq_true rfl) rfl dL_minute_175 ?_
      refine lv_iconst (v := 1) hx hb dL_minute_176 (by decide) ?_
      refine lv_iadd hx hb dL_minute_177 ?_
      refine x_iast (ws2 := [(bf, .inl (g.2 0, 28, .inl (upd (upd (upd y (o + 2) ((y (o + 2)) + (((upd t 0 ((t 0) + 1)) 1) + (y (o + 3))))) (o + 2) (((upd y (o + 2) ((y (o + 2)) + (((upd t 0 ((t 0) + 1)) 1) + (y (o + 3))))) (o + 2)) - (10 * ((upd y (o + 2) ((y (o + 2)) + (((upd t 0 ((t 0) + 1)) 1) + (y (o + 3))))) (o + 1))))) (o + 4) (((upd (upd y (o + 2) ((y (o + 2)) + (((upd t 0 ((t 0) + 1)) 1) + (y (o + 3))))) (o + 2) (((upd y (o + 2) ((y (o + 2)) + (((upd t 0 ((t 0) + 1)) 1) + (y (o + 3))))) (o + 2)) - (10 * ((upd y (o + 2) ((y (o + 2)) + (((upd t 0 ((t 0) + 1)) 1) + (y (o + 3))))) (o + 1))))) (o + 4)) + 1)))), (bk, .inl (g.2 0, 12, .inl k)), (bt, .inl (g.2 0, 8, .inl (upd t 0 ((t 0) + 1))))]) X 0 (o + 4) hP hD hS rfl (z_add rfl rfl) (by omega) (Nat.le_of_ble_eq_true rfl) rfl dL_minute_178 (fun H locs hP hD hS => ?_)
      refine lv_aload_n hx hb dL_minute_179 rfl (lv_at hl 3 rfl) ?_
      refine lv_iload hx hb dL_minute_180 (lv_at hl 0 rfl) ?_
      refine lv_iconst (v := 3) hx hb dL_minute_182 (by decide) ?_
      refine lv_iadd hx hb dL_minute_183 ?_
      refine lv_dup2_11 hx hb dL_minute_184 rfl rfl ?_
      refine x_iald (v := ((upd (upd (upd y (o + 2) ((y (o + 2)) + (((upd t 0 ((t 0) + 1)) 1) + (y (o + 3))))) (o + 2) (((upd y (o + 2) ((y (o + 2)) + (((upd t 0 ((t 0) + 1)) 1) + (y (o + 3))))) (o + 2)) - (10 * ((upd y (o + 2) ((y (o + 2)) + (((upd t 0 ((t 0) + 1)) 1) + (y (o + 3))))) (o + 1))))) (o + 4) (((upd (upd y (o + 2) ((y (o + 2)) + (((upd t 0 ((t 0) + 1)) 1) + (y (o + 3))))) (o + 2) (((upd y (o + 2) ((y (o + 2)) + (((upd t 0 ((t 0) + 1)) 1) + (y (o + 3))))) (o + 2)) - (10 * ((upd y (o + 2) ((y (o + 2)) + (((upd t 0 ((t 0) + 1)) 1) + (y (o + 3))))) (o + 1))))) (o + 4)) + 1)) (o + 3))) X 0 (o + 3) hP rfl (z_add rfl rfl) (by omega) (Nat.le_of_ble_eq_true rfl) rfl dL_minute_185 ?_
      refine lv_aload_n hx hb dL_minute_186 rfl (lv_at hl 3 rfl) ?_
      refine lv_iload hx hb dL_minute_187 (lv_at hl 0 rfl) ?_
      refine lv_iconst (v := 4) hx hb dL_minute_189 (by decide) ?_
      refine lv_iadd hx hb dL_minute_190 ?_
      refine x_iald (v := ((upd (upd (upd y (o + 2) ((y (o + 2)) + (((upd t 0 ((t 0) + 1)) 1) + (y (o + 3))))) (o + 2) (((upd y (o + 2) ((y (o + 2)) + (((upd t 0 ((t 0) + 1)) 1) + (y (o + 3))))) (o + 2)) - (10 * ((upd y (o + 2) ((y (o + 2)) + (((upd t 0 ((t 0) + 1)) 1) + (y (o + 3))))) (o + 1))))) (o + 4) (((upd (upd y (o + 2) ((y (o + 2)) + (((upd t 0 ((t 0) + 1)) 1) + (y (o + 3))))) (o + 2) (((upd y (o + 2) ((y (o + 2)) + (((upd t 0 ((t 0) + 1)) 1) + (y (o + 3))))) (o + 2)) - (10 * ((upd y (o + 2) ((y (o + 2)) + (((upd t 0 ((t 0) + 1)) 1) + (y (o + 3))))) (o + 1))))) (o + 4)) + 1)) (o + 4))) X 0 (o + 4) hP rfl (z_add rfl rfl) (by omega) (Nat.le_of_ble_eq_true rfl) rfl dL_minute_191 ?_
      refine lv_iconst (v := 3) hx hb dL_minute_192 (by decide) ?_
      refine lv_irem hx hb dL_minute_193 (by decide) ?_
      refine lv_if_ne (tgt := 212) hx hb dL_minute_194 (by decide) (fun (c_12 : ¬ (jrem ((upd (upd (upd y (o + 2) ((y (o + 2)) + (((upd t 0 ((t 0) + 1)) 1) + (y (o + 3))))) (o + 2) (((upd y (o + 2) ((y (o + 2)) + (((upd t 0 ((t 0) + 1)) 1) + (y (o + 3))))) (o + 2)) - (10 * ((upd y (o + 2) ((y (o + 2)) + (((upd t 0 ((t 0) + 1)) 1) + (y (o + 3))))) (o + 1))))) (o + 4) (((upd (upd y (o + 2) ((y (o + 2)) + (((upd t 0 ((t 0) + 1)) 1) + (y (o + 3))))) (o + 2) (((upd y (o + 2) ((y (o + 2)) + (((upd t 0 ((t 0) + 1)) 1) + (y (o + 3))))) (o + 2)) - (10 * ((upd y (o + 2) ((y (o + 2)) + (((upd t 0 ((t 0) + 1)) 1) + (y (o + 3))))) (o + 1))))) (o + 4)) + 1)) (o + 4)) 3) = 0) => ?_) (fun (c_12 : (jrem ((upd (upd (upd y (o + 2) ((y (o + 2)) + (((upd t 0 ((t 0) + 1)) 1) + (y (o + 3))))) (o + 2) (((upd y (o + 2) ((y (o + 2)) + (((upd t 0 ((t 0) + 1)) 1) + (y (o + 3))))) (o + 2)) - (10 * ((upd y (o + 2) ((y (o + 2)) + (((upd t 0 ((t 0) + 1)) 1) + (y (o + 3))))) (o + 1))))) (o + 4) (((upd (upd y (o + 2) ((y (o + 2)) + (((upd t 0 ((t 0) + 1)) 1) + (y (o + 3))))) (o + 2) (((upd y (o + 2) ((y (o + 2)) + (((upd t 0 ((t 0) + 1)) 1) + (y (o + 3))))) (o + 2)) - (10 * ((upd y (o + 2) ((y (o + 2)) + (((upd t 0 ((t 0) + 1)) 1) + (y (o + 3))))) (o + 1))))) (o + 4)) + 1)) (o + 4)) 3) = 0) => ?_)
      · refine lv_iconst (v := 0) hx hb dL_minute_212 (by decide) ?_
        refine lv_iadd hx hb dL_minute_213 ?_
        refine x_iast (ws2 := [(bf, .inl (g.2 0, 28, .inl (upd (upd (upd (upd y (o + 2) ((y (o + 2)) + (((upd t 0 ((t 0) + 1)) 1) + (y (o + 3))))) (o + 2) (((upd y (o + 2) ((y (o + 2)) + (((upd t 0 ((t 0) + 1)) 1) + (y (o + 3))))) (o + 2)) - (10 * ((upd y (o + 2) ((y (o + 2)) + (((upd t 0 ((t 0) + 1)) 1) + (y (o + 3))))) (o + 1))))) (o + 4) (((upd (upd y (o + 2) ((y (o + 2)) + (((upd t 0 ((t 0) + 1)) 1) + (y (o + 3))))) (o + 2) (((upd y (o + 2) ((y (o + 2)) + (((upd t 0 ((t 0) + 1)) 1) + (y (o + 3))))) (o + 2)) - (10 * ((upd y (o + 2) ((y (o + 2)) + (((upd t 0 ((t 0) + 1)) 1) + (y (o + 3))))) (o + 1))))) (o + 4)) + 1)) (o + 3) (((upd (upd (upd y (o + 2) ((y (o + 2)) + (((upd t 0 ((t 0) + 1)) 1) + (y (o + 3))))) (o + 2) (((upd y (o + 2) ((y (o + 2)) + (((upd t 0 ((t 0) + 1)) 1) + (y (o + 3))))) (o + 2)) - (10 * ((upd y (o + 2) ((y (o + 2)) + (((upd t 0 ((t 0) + 1)) 1) + (y (o + 3))))) (o + 1))))) (o + 4) (((upd (upd y (o + 2) ((y (o + 2)) + (((upd t 0 ((t 0) + 1)) 1) + (y (o + 3))))) (o + 2) (((upd y (o + 2) ((y (o + 2)) + (((upd t 0 ((t 0) + 1)) 1) + (y (o + 3))))) (o + 2)) - (10 * ((upd y (o + 2) ((y (o + 2)) + (((upd t 0 ((t 0) + 1)) 1) + (y (o + 3))))) (o + 1))))) (o + 4)) + 1)) (o + 3)) + 0)))), (bk, .inl (g.2 0, 12, .inl k)), (bt, .inl (g.2 0, 8, .inl (upd t 0 ((t 0) + 1))))]) X 0 (o + 3) hP hD hS rfl (z_add rfl rfl) (by omega) (Nat.le_of_ble_eq_true rfl) rfl dL_minute_214 (fun H locs hP hD hS => ?_)
        refine lv_iload hx hb dL_minute_215 (lv_at hl 2 rfl) ?_
        refine lv_aload_n hx hb dL_minute_217 rfl (lv_at hl 3 rfl) ?_
        refine lv_iload hx hb dL_minute_218 (lv_at hl 0 rfl) ?_
        refine lv_iconst (v := 3) hx hb dL_minute_220 (by decide) ?_
        refine lv_iadd hx hb dL_minute_221 ?_
        refine x_iald (v := ((upd (upd (upd (upd y (o + 2) ((y (o + 2)) + (((upd t 0 ((t 0) + 1)) 1) + (y (o + 3))))) (o + 2) (((upd y (o + 2) ((y (o + 2)) + (((upd t 0 ((t 0) + 1)) 1) + (y (o + 3))))) (o + 2)) - (10 * ((upd y (o + 2) ((y (o + 2)) + (((upd t 0 ((t 0) + 1)) 1) + (y (o + 3))))) (o + 1))))) (o + 4) (((upd (upd y (o + 2) ((y (o + 2)) + (((upd t 0 ((t 0) + 1)) 1) + (y (o + 3))))) (o + 2) (((upd y (o + 2) ((y (o + 2)) + (((upd t 0 ((t 0) + 1)) 1) + (y (o + 3))))) (o + 2)) - (10 * ((upd y (o + 2) ((y (o + 2)) + (((upd t 0 ((t 0) + 1)) 1) + (y (o + 3))))) (o + 1))))) (o + 4)) + 1)) (o + 3) (((upd (upd (upd y (o + 2) ((y (o + 2)) + (((upd t 0 ((t 0) + 1)) 1) + (y (o + 3))))) (o + 2) (((upd y (o + 2) ((y (o + 2)) + (((upd t 0 ((t 0) + 1)) 1) + (y (o + 3))))) (o + 2)) - (10 * ((upd y (o + 2) ((y (o + 2)) + (((upd t 0 ((t 0) + 1)) 1) + (y (o + 3))))) (o + 1))))) (o + 4) (((upd (upd y (o + 2) ((y (o + 2)) + (((upd t 0 ((t 0) + 1)) 1) + (y (o + 3))))) (o + 2) (((upd y (o + 2) ((y (o + 2)) + (((upd t 0 ((t 0) + 1)) 1) + (y (o + 3))))) (o + 2)) - (10 * ((upd y (o + 2) ((y (o + 2)) + (((upd t 0 ((t 0) + 1)) 1) + (y (o + 3))))) (o + 1))))) (o + 4)) + 1)) (o + 3)) + 0)) (o + 3))) X 0 (o + 3) hP rfl (z_add rfl rfl) (by omega) (Nat.le_of_ble_eq_true rfl) rfl dL_minute_222 ?_
        refine lv_iadd hx hb dL_minute_223 ?_
        refine lv_istore (lv' := [(4, .int (r + ((upd (upd (upd (upd y (o + 2) ((y (o + 2)) + (((upd t 0 ((t 0) + 1)) 1) + (y (o + 3))))) (o + 2) (((upd y (o + 2) ((y (o + 2)) + (((upd t 0 ((t 0) + 1)) 1) + (y (o + 3))))) (o + 2)) - (10 * ((upd y (o + 2) ((y (o + 2)) + (((upd t 0 ((t 0) + 1)) 1) + (y (o + 3))))) (o + 1))))) (o + 4) (((upd (upd y (o + 2) ((y (o + 2)) + (((upd t 0 ((t 0) + 1)) 1) + (y (o + 3))))) (o + 2) (((upd y (o + 2) ((y (o + 2)) + (((upd t 0 ((t 0) + 1)) 1) + (y (o + 3))))) (o + 2)) - (10 * ((upd y (o + 2) ((y (o + 2)) + (((upd t 0 ((t 0) + 1)) 1) + (y (o + 3))))) (o + 1))))) (o + 4)) + 1)) (o + 3) (((upd (upd (upd y (o + 2) ((y (o + 2)) + (((upd t 0 ((t 0) + 1)) 1) + (y (o + 3))))) (o + 2) (((upd y (o + 2) ((y (o + 2)) + (((upd t 0 ((t 0) + 1)) 1) + (y (o + 3))))) (o + 2)) - (10 * ((upd y (o + 2) ((y (o + 2)) + (((upd t 0 ((t 0) + 1)) 1) + (y (o + 3))))) (o + 1))))) (o + 4) (((upd (upd y (o + 2) ((y (o + 2)) + (((upd t 0 ((t 0) + 1)) 1) + (y (o + 3))))) (o + 2) (((upd y (o + 2) ((y (o + 2)) + (((upd t 0 ((t 0) + 1)) 1) + (y (o + 3))))) (o + 2)) - (10 * ((upd y (o + 2) ((y (o + 2)) + (((upd t 0 ((t 0) + 1)) 1) + (y (o + 3))))) (o + 1))))) (o + 4)) + 1)) (o + 3)) + 0)) (o + 3)))), (5, .int (nI o)), (3, .int q), (0, .ref bf), (1, .ref bk), (2, .ref bt)]) hx hb dL_minute_224 hl (by decide) rfl (fun ls hl => ?_)
        refine lv_iinc (v := (nI (o + 7))) (lv' := [(5, .int (nI (o + 7))), (4, .int (r + ((upd (upd (upd (upd y (o + 2) ((y (o + 2)) + (((upd t 0 ((t 0) + 1)) 1) + (y (o + 3))))) (o + 2) (((upd y (o + 2) ((y (o + 2)) + (((upd t 0 ((t 0) + 1)) 1) + (y (o + 3))))) (o + 2)) - (10 * ((upd y (o + 2) ((y (o + 2)) + (((upd t 0 ((t 0) + 1)) 1) + (y (o + 3))))) (o + 1))))) (o + 4) (((upd (upd y (o + 2) ((y (o + 2)) + (((upd t 0 ((t 0) + 1)) 1) + (y (o + 3))))) (o + 2) (((upd y (o + 2) ((y (o + 2)) + (((upd t 0 ((t 0) + 1)) 1) + (y (o + 3))))) (o + 2)) - (10 * ((upd y (o + 2) ((y (o + 2)) + (((upd t 0 ((t 0) + 1)) 1) + (y (o + 3))))) (o + 1))))) (o + 4)) + 1)) (o + 3) (((upd (upd (upd y (o + 2) ((y (o + 2)) + (((upd t 0 ((t 0) + 1)) 1) + (y (o + 3))))) (o + 2) (((upd y (o + 2) ((y (o + 2)) + (((upd t 0 ((t 0) + 1)) 1) + (y (o + 3))))) (o + 2)) - (10 * ((upd y (o + 2) ((y (o + 2)) + (((upd t 0 ((t 0) + 1)) 1) + (y (o + 3))))) (o + 1))))) (o + 4) (((upd (upd y (o + 2) ((y (o + 2)) + (((upd t 0 ((t 0) + 1)) 1) + (y (o + 3))))) (o + 2) (((upd y (o + 2) ((y (o + 2)) + (((upd t 0 ((t 0) + 1)) 1) + (y (o + 3))))) (o + 2)) - (10 * ((upd y (o + 2) ((y (o + 2)) + (((upd t 0 ((t 0) + 1)) 1) + (y (o + 3))))) (o + 1))))) (o + 4)) + 1)) (o + 3)) + 0)) (o + 3)))), (3, .int q), (0, .ref bf), (1, .ref bk), (2, .ref bt)]) hx hb dL_minute_226 hl (k := 1) rfl (nI_add _ 7) (by decide) rfl (fun ls hl => ?_)
        refine lv_goto (tgt := 17) hx hb dL_minute_229 (by decide) ?_
        have w9 : tlW o (tlP o (tlS ((upd t 0 ((t 0) + 1)) 1) o y)) = 0 := if_neg c_12
        have T9 : turnL ((upd t 0 ((t 0) + 1)) 1) o y q = (upd (tlP o (tlS ((upd t 0 ((t 0) + 1)) 1) o y)) (o + 3) ((tlP o (tlS ((upd t 0 ((t 0) + 1)) 1) o y)) (o + 3) + tlW o (tlP o (tlS ((upd t 0 ((t 0) + 1)) 1) o y))), q) := if_pos c_11
        rw [w9] at T9
        exact ih (o + 7) (upd (upd (upd (upd y (o + 2) ((y (o + 2)) + (((upd t 0 ((t 0) + 1)) 1) + (y (o + 3))))) (o + 2) (((upd y (o + 2) ((y (o + 2)) + (((upd t 0 ((t 0) + 1)) 1) + (y (o + 3))))) (o + 2)) - (10 * ((upd y (o + 2) ((y (o + 2)) + (((upd t 0 ((t 0) + 1)) 1) + (y (o + 3))))) (o + 1))))) (o + 4) (((upd (upd y (o + 2) ((y (o + 2)) + (((upd t 0 ((t 0) + 1)) 1) + (y (o + 3))))) (o + 2) (((upd y (o + 2) ((y (o + 2)) + (((upd t 0 ((t 0) + 1)) 1) + (y (o + 3))))) (o + 2)) - (10 * ((upd y (o + 2) ((y (o + 2)) + (((upd t 0 ((t 0) + 1)) 1) + (y (o + 3))))) (o + 1))))) (o + 4)) + 1)) (o + 3) (((upd (upd (upd y (o + 2) ((y (o + 2)) + (((upd t 0 ((t 0) + 1)) 1) + (y (o + 3))))) (o + 2) (((upd y (o + 2) ((y (o + 2)) + (((upd t 0 ((t 0) + 1)) 1) + (y (o + 3))))) (o + 2)) - (10 * ((upd y (o + 2) ((y (o + 2)) + (((upd t 0 ((t 0) + 1)) 1) + (y (o + 3))))) (o + 1))))) (o + 4) (((upd (upd y (o + 2) ((y (o + 2)) + (((upd t 0 ((t 0) + 1)) 1) + (y (o + 3))))) (o + 2) (((upd y (o + 2) ((y (o + 2)) + (((upd t 0 ((t 0) + 1)) 1) + (y (o + 3))))) (o + 2)) - (10 * ((upd y (o + 2) ((y (o + 2)) + (((upd t 0 ((t 0) + 1)) 1) + (y (o + 3))))) (o + 1))))) (o + 4)) + 1)) (o + 3)) + 0)) q (r + ((upd (upd (upd (upd y (o + 2) ((y (o + 2)) + (((upd t 0 ((t 0) + 1)) 1) + (y (o + 3))))) (o + 2) (((upd y (o + 2) ((y (o + 2)) + (((upd t 0 ((t 0) + 1)) 1) + (y (o + 3))))) (o + 2)) - (10 * ((upd y (o + 2) ((y (o + 2)) + (((upd t 0 ((t 0) + 1)) 1) + (y (o + 3))))) (o + 1))))) (o + 4) (((upd (upd y (o + 2) ((y (o + 2)) + (((upd t 0 ((t 0) + 1)) 1) + (y (o + 3))))) (o + 2) (((upd y (o + 2) ((y (o + 2)) + (((upd t 0 ((t 0) + 1)) 1) + (y (o + 3))))) (o + 2)) - (10 * ((upd y (o + 2) ((y (o + 2)) + (((upd t 0 ((t 0) + 1)) 1) + (y (o + 3))))) (o + 1))))) (o + 4)) + 1)) (o + 3) (((upd (upd (upd y (o + 2) ((y (o + 2)) + (((upd t 0 ((t 0) + 1)) 1) + (y (o + 3))))) (o + 2) (((upd y (o + 2) ((y (o + 2)) + (((upd t 0 ((t 0) + 1)) 1) + (y (o + 3))))) (o + 2)) - (10 * ((upd y (o + 2) ((y (o + 2)) + (((upd t 0 ((t 0) + 1)) 1) + (y (o + 3))))) (o + 1))))) (o + 4) (((upd (upd y (o + 2) ((y (o + 2)) + (((upd t 0 ((t 0) + 1)) 1) + (y (o + 3))))) (o + 2) (((upd y (o + 2) ((y (o + 2)) + (((upd t 0 ((t 0) + 1)) 1) + (y (o + 3))))) (o + 2)) - (10 * ((upd y (o + 2) ((y (o + 2)) + (((upd t 0 ((t 0) + 1)) 1) + (y (o + 3))))) (o + 1))))) (o + 4)) + 1)) (o + 3)) + 0)) (o + 3))) (by omega) (by rw [← ht]; show _ = turnsL ((upd t 0 ((t 0) + 1)) 1) n (o + 7) (turnL ((upd t 0 ((t 0) + 1)) 1) o y q).1 (turnL ((upd t 0 ((t 0) + 1)) 1) o y q).2 (r + (turnL ((upd t 0 ((t 0) + 1)) 1) o y q).1 (o + 3)); rw [T9]; rfl) ls _ _ hP hD hS (lv_sub hl [0, 2, 1, 3, 4, 5] rfl)
      · refine lv_aload_n hx hb dL_minute_197 rfl (lv_at hl 3 rfl) ?_
        refine lv_iload hx hb dL_minute_198 (lv_at hl 0 rfl) ?_
        refine lv_iconst (v := 3) hx hb dL_minute_200 (by decide) ?_
        refine lv_iadd hx hb dL_minute_201 ?_
        refine x_iald (v := ((upd (upd (upd y (o + 2) ((y (o + 2)) + (((upd t 0 ((t 0) + 1)) 1) + (y (o + 3))))) (o + 2) (((upd y (o + 2) ((y (o + 2)) + (((upd t 0 ((t 0) + 1)) 1) + (y (o + 3))))) (o + 2)) - (10 * ((upd y (o + 2) ((y (o + 2)) + (((upd t 0 ((t 0) + 1)) 1) + (y (o + 3))))) (o + 1))))) (o + 4) (((upd (upd y (o + 2) ((y (o + 2)) + (((upd t 0 ((t 0) + 1)) 1) + (y (o + 3))))) (o + 2) (((upd y (o + 2) ((y (o + 2)) + (((upd t 0 ((t 0) + 1)) 1) + (y (o + 3))))) (o + 2)) - (10 * ((upd y (o + 2) ((y (o + 2)) + (((upd t 0 ((t 0) + 1)) 1) + (y (o + 3))))) (o + 1))))) (o + 4)) + 1)) (o + 3))) X 0 (o + 3) hP rfl (z_add rfl rfl) (by omega) (Nat.le_of_ble_eq_true rfl) rfl dL_minute_202 ?_
        refine lv_bipush (v := 9) hx hb dL_minute_203 (by decide) ?_
        refine lv_icmp_ge (tgt := 212) hx hb dL_minute_205 (by decide) (fun (c_13 : 9 ≤ ((upd (upd (upd y (o + 2) ((y (o + 2)) + (((upd t 0 ((t 0) + 1)) 1) + (y (o + 3))))) (o + 2) (((upd y (o + 2) ((y (o + 2)) + (((upd t 0 ((t 0) + 1)) 1) + (y (o + 3))))) (o + 2)) - (10 * ((upd y (o + 2) ((y (o + 2)) + (((upd t 0 ((t 0) + 1)) 1) + (y (o + 3))))) (o + 1))))) (o + 4) (((upd (upd y (o + 2) ((y (o + 2)) + (((upd t 0 ((t 0) + 1)) 1) + (y (o + 3))))) (o + 2) (((upd y (o + 2) ((y (o + 2)) + (((upd t 0 ((t 0) + 1)) 1) + (y (o + 3))))) (o + 2)) - (10 * ((upd y (o + 2) ((y (o + 2)) + (((upd t 0 ((t 0) + 1)) 1) + (y (o + 3))))) (o + 1))))) (o + 4)) + 1)) (o + 3))) => ?_) (fun (c_13 : ¬ 9 ≤ ((upd (upd (upd y (o + 2) ((y (o + 2)) + (((upd t 0 ((t 0) + 1)) 1) + (y (o + 3))))) (o + 2) (((upd y (o + 2) ((y (o + 2)) + (((upd t 0 ((t 0) + 1)) 1) + (y (o + 3))))) (o + 2)) - (10 * ((upd y (o + 2) ((y (o + 2)) + (((upd t 0 ((t 0) + 1)) 1) + (y (o + 3))))) (o + 1))))) (o + 4) (((upd (upd y (o + 2) ((y (o + 2)) + (((upd t 0 ((t 0) + 1)) 1) + (y (o + 3))))) (o + 2) (((upd y (o + 2) ((y (o + 2)) + (((upd t 0 ((t 0) + 1)) 1) + (y (o + 3))))) (o + 2)) - (10 * ((upd y (o + 2) ((y (o + 2)) + (((upd t 0 ((t 0) + 1)) 1) + (y (o + 3))))) (o + 1))))) (o + 4)) + 1)) (o + 3))) => ?_)
        · refine lv_iconst (v := 0) hx hb dL_minute_212 (by decide) ?_
          refine lv_iadd hx hb dL_minute_213 ?_
          refine x_iast (ws2 := [(bf, .inl (g.2 0, 28, .inl (upd (upd (upd (upd y (o + 2) ((y (o + 2)) + (((upd t 0 ((t 0) + 1)) 1) + (y (o + 3))))) (o + 2) (((upd y (o + 2) ((y (o + 2)) + (((upd t 0 ((t 0) + 1)) 1) + (y (o + 3))))) (o + 2)) - (10 * ((upd y (o + 2) ((y (o + 2)) + (((upd t 0 ((t 0) + 1)) 1) + (y (o + 3))))) (o + 1))))) (o + 4) (((upd (upd y (o + 2) ((y (o + 2)) + (((upd t 0 ((t 0) + 1)) 1) + (y (o + 3))))) (o + 2) (((upd y (o + 2) ((y (o + 2)) + (((upd t 0 ((t 0) + 1)) 1) + (y (o + 3))))) (o + 2)) - (10 * ((upd y (o + 2) ((y (o + 2)) + (((upd t 0 ((t 0) + 1)) 1) + (y (o + 3))))) (o + 1))))) (o + 4)) + 1)) (o + 3) (((upd (upd (upd y (o + 2) ((y (o + 2)) + (((upd t 0 ((t 0) + 1)) 1) + (y (o + 3))))) (o + 2) (((upd y (o + 2) ((y (o + 2)) + (((upd t 0 ((t 0) + 1)) 1) + (y (o + 3))))) (o + 2)) - (10 * ((upd y (o + 2) ((y (o + 2)) + (((upd t 0 ((t 0) + 1)) 1) + (y (o + 3))))) (o + 1))))) (o + 4) (((upd (upd y (o + 2) ((y (o + 2)) + (((upd t 0 ((t 0) + 1)) 1) + (y (o + 3))))) (o + 2) (((upd y (o + 2) ((y (o + 2)) + (((upd t 0 ((t 0) + 1)) 1) + (y (o + 3))))) (o + 2)) - (10 * ((upd y (o + 2) ((y (o + 2)) + (((upd t 0 ((t 0) + 1)) 1) + (y (o + 3))))) (o + 1))))) (o + 4)) + 1)) (o + 3)) + 0)))), (bk, .inl (g.2 0, 12, .inl k)), (bt, .inl (g.2 0, 8, .inl (upd t 0 ((t 0) + 1))))]) X 0 (o + 3) hP hD hS rfl (z_add rfl rfl) (by omega) (Nat.le_of_ble_eq_true rfl) rfl dL_minute_214 (fun H locs hP hD hS => ?_)
          refine lv_iload hx hb dL_minute_215 (lv_at hl 2 rfl) ?_
          refine lv_aload_n hx hb dL_minute_217 rfl (lv_at hl 3 rfl) ?_
          refine lv_iload hx hb dL_minute_218 (lv_at hl 0 rfl) ?_
          refine lv_iconst (v := 3) hx hb dL_minute_220 (by decide) ?_
          refine lv_iadd hx hb dL_minute_221 ?_
          refine x_iald (v := ((upd (upd (upd (upd y (o + 2) ((y (o + 2)) + (((upd t 0 ((t 0) + 1)) 1) + (y (o + 3))))) (o + 2) (((upd y (o + 2) ((y (o + 2)) + (((upd t 0 ((t 0) + 1)) 1) + (y (o + 3))))) (o + 2)) - (10 * ((upd y (o + 2) ((y (o + 2)) + (((upd t 0 ((t 0) + 1)) 1) + (y (o + 3))))) (o + 1))))) (o + 4) (((upd (upd y (o + 2) ((y (o + 2)) + (((upd t 0 ((t 0) + 1)) 1) + (y (o + 3))))) (o + 2) (((upd y (o + 2) ((y (o + 2)) + (((upd t 0 ((t 0) + 1)) 1) + (y (o + 3))))) (o + 2)) - (10 * ((upd y (o + 2) ((y (o + 2)) + (((upd t 0 ((t 0) + 1)) 1) + (y (o + 3))))) (o + 1))))) (o + 4)) + 1)) (o + 3) (((upd (upd (upd y (o + 2) ((y (o + 2)) + (((upd t 0 ((t 0) + 1)) 1) + (y (o + 3))))) (o + 2) (((upd y (o + 2) ((y (o + 2)) + (((upd t 0 ((t 0) + 1)) 1) + (y (o + 3))))) (o + 2)) - (10 * ((upd y (o + 2) ((y (o + 2)) + (((upd t 0 ((t 0) + 1)) 1) + (y (o + 3))))) (o + 1))))) (o + 4) (((upd (upd y (o + 2) ((y (o + 2)) + (((upd t 0 ((t 0) + 1)) 1) + (y (o + 3))))) (o + 2) (((upd y (o + 2) ((y (o + 2)) + (((upd t 0 ((t 0) + 1)) 1) + (y (o + 3))))) (o + 2)) - (10 * ((upd y (o + 2) ((y (o + 2)) + (((upd t 0 ((t 0) + 1)) 1) + (y (o + 3))))) (o + 1))))) (o + 4)) + 1)) (o + 3)) + 0)) (o + 3))) X 0 (o + 3) hP rfl (z_add rfl rfl) (by omega) (Nat.le_of_ble_eq_true rfl) rfl dL_minute_222 ?_
          refine lv_iadd hx hb dL_minute_223 ?_
          refine lv_istore (lv' := [(4, .int (r + ((upd (upd (upd (upd y (o + 2) ((y (o + 2)) + (((upd t 0 ((t 0) + 1)) 1) + (y (o + 3))))) (o + 2) (((upd y (o + 2) ((y (o + 2)) + (((upd t 0 ((t 0) + 1)) 1) + (y (o + 3))))) (o + 2)) - (10 * ((upd y (o + 2) ((y (o + 2)) + (((upd t 0 ((t 0) + 1)) 1) + (y (o + 3))))) (o + 1))))) (o + 4) (((upd (upd y (o + 2) ((y (o + 2)) + (((upd t 0 ((t 0) + 1)) 1) + (y (o + 3))))) (o + 2) (((upd y (o + 2) ((y (o + 2)) + (((upd t 0 ((t 0) + 1)) 1) + (y (o + 3))))) (o + 2)) - (10 * ((upd y (o + 2) ((y (o + 2)) + (((upd t 0 ((t 0) + 1)) 1) + (y (o + 3))))) (o + 1))))) (o + 4)) + 1)) (o + 3) (((upd (upd (upd y (o + 2) ((y (o + 2)) + (((upd t 0 ((t 0) + 1)) 1) + (y (o + 3))))) (o + 2) (((upd y (o + 2) ((y (o + 2)) + (((upd t 0 ((t 0) + 1)) 1) + (y (o + 3))))) (o + 2)) - (10 * ((upd y (o + 2) ((y (o + 2)) + (((upd t 0 ((t 0) + 1)) 1) + (y (o + 3))))) (o + 1))))) (o + 4) (((upd (upd y (o + 2) ((y (o + 2)) + (((upd t 0 ((t 0) + 1)) 1) + (y (o + 3))))) (o + 2) (((upd y (o + 2) ((y (o + 2)) + (((upd t 0 ((t 0) + 1)) 1) + (y (o + 3))))) (o + 2)) - (10 * ((upd y (o + 2) ((y (o + 2)) + (((upd t 0 ((t 0) + 1)) 1) + (y (o + 3))))) (o + 1))))) (o + 4)) + 1)) (o + 3)) + 0)) (o + 3)))), (5, .int (nI o)), (3, .int q), (0, .ref bf), (1, .ref bk), (2, .ref bt)]) hx hb dL_minute_224 hl (by decide) rfl (fun ls hl => ?_)
          refine lv_iinc (v := (nI (o + 7))) (lv' := [(5, .int (nI (o + 7))), (4, .int (r + ((upd (upd (upd (upd y (o + 2) ((y (o + 2)) + (((upd t 0 ((t 0) + 1)) 1) + (y (o + 3))))) (o + 2) (((upd y (o + 2) ((y (o + 2)) + (((upd t 0 ((t 0) + 1)) 1) + (y (o + 3))))) (o + 2)) - (10 * ((upd y (o + 2) ((y (o + 2)) + (((upd t 0 ((t 0) + 1)) 1) + (y (o + 3))))) (o + 1))))) (o + 4) (((upd (upd y (o + 2) ((y (o + 2)) + (((upd t 0 ((t 0) + 1)) 1) + (y (o + 3))))) (o + 2) (((upd y (o + 2) ((y (o + 2)) + (((upd t 0 ((t 0) + 1)) 1) + (y (o + 3))))) (o + 2)) - (10 * ((upd y (o + 2) ((y (o + 2)) + (((upd t 0 ((t 0) + 1)) 1) + (y (o + 3))))) (o + 1))))) (o + 4)) + 1)) (o + 3) (((upd (upd (upd y (o + 2) ((y (o + 2)) + (((upd t 0 ((t 0) + 1)) 1) + (y (o + 3))))) (o + 2) (((upd y (o + 2) ((y (o + 2)) + (((upd t 0 ((t 0) + 1)) 1) + (y (o + 3))))) (o + 2)) - (10 * ((upd y (o + 2) ((y (o + 2)) + (((upd t 0 ((t 0) + 1)) 1) + (y (o + 3))))) (o + 1))))) (o + 4) (((upd (upd y (o + 2) ((y (o + 2)) + (((upd t 0 ((t 0) + 1)) 1) + (y (o + 3))))) (o + 2) (((upd y (o + 2) ((y (o + 2)) + (((upd t 0 ((t 0) + 1)) 1) + (y (o + 3))))) (o + 2)) - (10 * ((upd y (o + 2) ((y (o + 2)) + (((upd t 0 ((t 0) + 1)) 1) + (y (o + 3))))) (o + 1))))) (o + 4)) + 1)) (o + 3)) + 0)) (o + 3)))), (3, .int q), (0, .ref bf), (1, .ref bk), (2, .ref bt)]) hx hb dL_minute_226 hl (k := 1) rfl (nI_add _ 7) (by decide) rfl (fun ls hl => ?_)
          refine lv_goto (tgt := 17) hx hb dL_minute_229 (by decide) ?_
          have w9 : tlW o (tlP o (tlS ((upd t 0 ((t 0) + 1)) 1) o y)) = 0 := (if_pos c_12).trans (if_pos c_13)
          have T9 : turnL ((upd t 0 ((t 0) + 1)) 1) o y q = (upd (tlP o (tlS ((upd t 0 ((t 0) + 1)) 1) o y)) (o + 3) ((tlP o (tlS ((upd t 0 ((t 0) + 1)) 1) o y)) (o + 3) + tlW o (tlP o (tlS ((upd t 0 ((t 0) + 1)) 1) o y))), q) := if_pos c_11
          rw [w9] at T9
          exact ih (o + 7) (upd (upd (upd (upd y (o + 2) ((y (o + 2)) + (((upd t 0 ((t 0) + 1)) 1) + (y (o + 3))))) (o + 2) (((upd y (o + 2) ((y (o + 2)) + (((upd t 0 ((t 0) + 1)) 1) + (y (o + 3))))) (o + 2)) - (10 * ((upd y (o + 2) ((y (o + 2)) + (((upd t 0 ((t 0) + 1)) 1) + (y (o + 3))))) (o + 1))))) (o + 4) (((upd (upd y (o + 2) ((y (o + 2)) + (((upd t 0 ((t 0) + 1)) 1) + (y (o + 3))))) (o + 2) (((upd y (o + 2) ((y (o + 2)) + (((upd t 0 ((t 0) + 1)) 1) + (y (o + 3))))) (o + 2)) - (10 * ((upd y (o + 2) ((y (o + 2)) + (((upd t 0 ((t 0) + 1)) 1) + (y (o + 3))))) (o + 1))))) (o + 4)) + 1)) (o + 3) (((upd (upd (upd y (o + 2) ((y (o + 2)) + (((upd t 0 ((t 0) + 1)) 1) + (y (o + 3))))) (o + 2) (((upd y (o + 2) ((y (o + 2)) + (((upd t 0 ((t 0) + 1)) 1) + (y (o + 3))))) (o + 2)) - (10 * ((upd y (o + 2) ((y (o + 2)) + (((upd t 0 ((t 0) + 1)) 1) + (y (o + 3))))) (o + 1))))) (o + 4) (((upd (upd y (o + 2) ((y (o + 2)) + (((upd t 0 ((t 0) + 1)) 1) + (y (o + 3))))) (o + 2) (((upd y (o + 2) ((y (o + 2)) + (((upd t 0 ((t 0) + 1)) 1) + (y (o + 3))))) (o + 2)) - (10 * ((upd y (o + 2) ((y (o + 2)) + (((upd t 0 ((t 0) + 1)) 1) + (y (o + 3))))) (o + 1))))) (o + 4)) + 1)) (o + 3)) + 0)) q (r + ((upd (upd (upd (upd y (o + 2) ((y (o + 2)) + (((upd t 0 ((t 0) + 1)) 1) + (y (o + 3))))) (o + 2) (((upd y (o + 2) ((y (o + 2)) + (((upd t 0 ((t 0) + 1)) 1) + (y (o + 3))))) (o + 2)) - (10 * ((upd y (o + 2) ((y (o + 2)) + (((upd t 0 ((t 0) + 1)) 1) + (y (o + 3))))) (o + 1))))) (o + 4) (((upd (upd y (o + 2) ((y (o + 2)) + (((upd t 0 ((t 0) + 1)) 1) + (y (o + 3))))) (o + 2) (((upd y (o + 2) ((y (o + 2)) + (((upd t 0 ((t 0) + 1)) 1) + (y (o + 3))))) (o + 2)) - (10 * ((upd y (o + 2) ((y (o + 2)) + (((upd t 0 ((t 0) + 1)) 1) + (y (o + 3))))) (o + 1))))) (o + 4)) + 1)) (o + 3) (((upd (upd (upd y (o + 2) ((y (o + 2)) + (((upd t 0 ((t 0) + 1)) 1) + (y (o + 3))))) (o + 2) (((upd y (o + 2) ((y (o + 2)) + (((upd t 0 ((t 0) + 1)) 1) + (y (o + 3))))) (o + 2)) - (10 * ((upd y (o + 2) ((y (o + 2)) + (((upd t 0 ((t 0) + 1)) 1) + (y (o + 3))))) (o + 1))))) (o + 4) (((upd (upd y (o + 2) ((y (o + 2)) + (((upd t 0 ((t 0) + 1)) 1) + (y (o + 3))))) (o + 2) (((upd y (o + 2) ((y (o + 2)) + (((upd t 0 ((t 0) + 1)) 1) + (y (o + 3))))) (o + 2)) - (10 * ((upd y (o + 2) ((y (o + 2)) + (((upd t 0 ((t 0) + 1)) 1) + (y (o + 3))))) (o + 1))))) (o + 4)) + 1)) (o + 3)) + 0)) (o + 3))) (by omega) (by rw [← ht]; show _ = turnsL ((upd t 0 ((t 0) + 1)) 1) n (o + 7) (turnL ((upd t 0 ((t 0) + 1)) 1) o y q).1 (turnL ((upd t 0 ((t 0) + 1)) 1) o y q).2 (r + (turnL ((upd t 0 ((t 0) + 1)) 1) o y q).1 (o + 3)); rw [T9]; rfl) ls _ _ hP hD hS (lv_sub hl [0, 2, 1, 3, 4, 5] rfl)
        · refine lv_iconst (v := 1) hx hb dL_minute_208 (by decide) ?_
          refine lv_goto (tgt := 213) hx hb dL_minute_209 (by decide) ?_
          refine lv_iadd hx hb dL_minute_213 ?_
          refine x_iast (ws2 := [(bf, .inl (g.2 0, 28, .inl (upd (upd (upd (upd y (o + 2) ((y (o + 2)) + (((upd t 0 ((t 0) + 1)) 1) + (y (o + 3))))) (o + 2) (((upd y (o + 2) ((y (o + 2)) + (((upd t 0 ((t 0) + 1)) 1) + (y (o + 3))))) (o + 2)) - (10 * ((upd y (o + 2) ((y (o + 2)) + (((upd t 0 ((t 0) + 1)) 1) + (y (o + 3))))) (o + 1))))) (o + 4) (((upd (upd y (o + 2) ((y (o + 2)) + (((upd t 0 ((t 0) + 1)) 1) + (y (o + 3))))) (o + 2) (((upd y (o + 2) ((y (o + 2)) + (((upd t 0 ((t 0) + 1)) 1) + (y (o + 3))))) (o + 2)) - (10 * ((upd y (o + 2) ((y (o + 2)) + (((upd t 0 ((t 0) + 1)) 1) + (y (o + 3))))) (o + 1))))) (o + 4)) + 1)) (o + 3) (((upd (upd (upd y (o + 2) ((y (o + 2)) + (((upd t 0 ((t 0) + 1)) 1) + (y (o + 3))))) (o + 2) (((upd y (o + 2) ((y (o + 2)) + (((upd t 0 ((t 0) + 1)) 1) + (y (o + 3))))) (o + 2)) - (10 * ((upd y (o + 2) ((y (o + 2)) + (((upd t 0 ((t 0) + 1)) 1) + (y (o + 3))))) (o + 1))))) (o + 4) (((upd (upd y (o + 2) ((y (o + 2)) + (((upd t 0 ((t 0) + 1)) 1) + (y (o + 3))))) (o + 2) (((upd y (o + 2) ((y (o + 2)) + (((upd t 0 ((t 0) + 1)) 1) + (y (o + 3))))) (o + 2)) - (10 * ((upd y (o + 2) ((y (o + 2)) + (((upd t 0 ((t 0) + 1)) 1) + (y (o + 3))))) (o + 1))))) (o + 4)) + 1)) (o + 3)) + 1)))), (bk, .inl (g.2 0, 12, .inl k)), (bt, .inl (g.2 0, 8, .inl (upd t 0 ((t 0) + 1))))]) X 0 (o + 3) hP hD hS rfl (z_add rfl rfl) (by omega) (Nat.le_of_ble_eq_true rfl) rfl dL_minute_214 (fun H locs hP hD hS => ?_)
          refine lv_iload hx hb dL_minute_215 (lv_at hl 2 rfl) ?_
          refine lv_aload_n hx hb dL_minute_217 rfl (lv_at hl 3 rfl) ?_
          refine lv_iload hx hb dL_minute_218 (lv_at hl 0 rfl) ?_
          refine lv_iconst (v := 3) hx hb dL_minute_220 (by decide) ?_
          refine lv_iadd hx hb dL_minute_221 ?_
          refine x_iald (v := ((upd (upd (upd (upd y (o + 2) ((y (o + 2)) + (((upd t 0 ((t 0) + 1)) 1) + (y (o + 3))))) (o + 2) (((upd y (o + 2) ((y (o + 2)) + (((upd t 0 ((t 0) + 1)) 1) + (y (o + 3))))) (o + 2)) - (10 * ((upd y (o + 2) ((y (o + 2)) + (((upd t 0 ((t 0) + 1)) 1) + (y (o + 3))))) (o + 1))))) (o + 4) (((upd (upd y (o + 2) ((y (o + 2)) + (((upd t 0 ((t 0) + 1)) 1) + (y (o + 3))))) (o + 2) (((upd y (o + 2) ((y (o + 2)) + (((upd t 0 ((t 0) + 1)) 1) + (y (o + 3))))) (o + 2)) - (10 * ((upd y (o + 2) ((y (o + 2)) + (((upd t 0 ((t 0) + 1)) 1) + (y (o + 3))))) (o + 1))))) (o + 4)) + 1)) (o + 3) (((upd (upd (upd y (o + 2) ((y (o + 2)) + (((upd t 0 ((t 0) + 1)) 1) + (y (o + 3))))) (o + 2) (((upd y (o + 2) ((y (o + 2)) + (((upd t 0 ((t 0) + 1)) 1) + (y (o + 3))))) (o + 2)) - (10 * ((upd y (o + 2) ((y (o + 2)) + (((upd t 0 ((t 0) + 1)) 1) + (y (o + 3))))) (o + 1))))) (o + 4) (((upd (upd y (o + 2) ((y (o + 2)) + (((upd t 0 ((t 0) + 1)) 1) + (y (o + 3))))) (o + 2) (((upd y (o + 2) ((y (o + 2)) + (((upd t 0 ((t 0) + 1)) 1) + (y (o + 3))))) (o + 2)) - (10 * ((upd y (o + 2) ((y (o + 2)) + (((upd t 0 ((t 0) + 1)) 1) + (y (o + 3))))) (o + 1))))) (o + 4)) + 1)) (o + 3)) + 1)) (o + 3))) X 0 (o + 3) hP rfl (z_add rfl rfl) (by omega) (Nat.le_of_ble_eq_true rfl) rfl dL_minute_222 ?_
          refine lv_iadd hx hb dL_minute_223 ?_
          refine lv_istore (lv' := [(4, .int (r + ((upd (upd (upd (upd y (o + 2) ((y (o + 2)) + (((upd t 0 ((t 0) + 1)) 1) + (y (o + 3))))) (o + 2) (((upd y (o + 2) ((y (o + 2)) + (((upd t 0 ((t 0) + 1)) 1) + (y (o + 3))))) (o + 2)) - (10 * ((upd y (o + 2) ((y (o + 2)) + (((upd t 0 ((t 0) + 1)) 1) + (y (o + 3))))) (o + 1))))) (o + 4) (((upd (upd y (o + 2) ((y (o + 2)) + (((upd t 0 ((t 0) + 1)) 1) + (y (o + 3))))) (o + 2) (((upd y (o + 2) ((y (o + 2)) + (((upd t 0 ((t 0) + 1)) 1) + (y (o + 3))))) (o + 2)) - (10 * ((upd y (o + 2) ((y (o + 2)) + (((upd t 0 ((t 0) + 1)) 1) + (y (o + 3))))) (o + 1))))) (o + 4)) + 1)) (o + 3) (((upd (upd (upd y (o + 2) ((y (o + 2)) + (((upd t 0 ((t 0) + 1)) 1) + (y (o + 3))))) (o + 2) (((upd y (o + 2) ((y (o + 2)) + (((upd t 0 ((t 0) + 1)) 1) + (y (o + 3))))) (o + 2)) - (10 * ((upd y (o + 2) ((y (o + 2)) + (((upd t 0 ((t 0) + 1)) 1) + (y (o + 3))))) (o + 1))))) (o + 4) (((upd (upd y (o + 2) ((y (o + 2)) + (((upd t 0 ((t 0) + 1)) 1) + (y (o + 3))))) (o + 2) (((upd y (o + 2) ((y (o + 2)) + (((upd t 0 ((t 0) + 1)) 1) + (y (o + 3))))) (o + 2)) - (10 * ((upd y (o + 2) ((y (o + 2)) + (((upd t 0 ((t 0) + 1)) 1) + (y (o + 3))))) (o + 1))))) (o + 4)) + 1)) (o + 3)) + 1)) (o + 3)))), (5, .int (nI o)), (3, .int q), (0, .ref bf), (1, .ref bk), (2, .ref bt)]) hx hb dL_minute_224 hl (by decide) rfl (fun ls hl => ?_)
          refine lv_iinc (v := (nI (o + 7))) (lv' := [(5, .int (nI (o + 7))), (4, .int (r + ((upd (upd (upd (upd y (o + 2) ((y (o + 2)) + (((upd t 0 ((t 0) + 1)) 1) + (y (o + 3))))) (o + 2) (((upd y (o + 2) ((y (o + 2)) + (((upd t 0 ((t 0) + 1)) 1) + (y (o + 3))))) (o + 2)) - (10 * ((upd y (o + 2) ((y (o + 2)) + (((upd t 0 ((t 0) + 1)) 1) + (y (o + 3))))) (o + 1))))) (o + 4) (((upd (upd y (o + 2) ((y (o + 2)) + (((upd t 0 ((t 0) + 1)) 1) + (y (o + 3))))) (o + 2) (((upd y (o + 2) ((y (o + 2)) + (((upd t 0 ((t 0) + 1)) 1) + (y (o + 3))))) (o + 2)) - (10 * ((upd y (o + 2) ((y (o + 2)) + (((upd t 0 ((t 0) + 1)) 1) + (y (o + 3))))) (o + 1))))) (o + 4)) + 1)) (o + 3) (((upd (upd (upd y (o + 2) ((y (o + 2)) + (((upd t 0 ((t 0) + 1)) 1) + (y (o + 3))))) (o + 2) (((upd y (o + 2) ((y (o + 2)) + (((upd t 0 ((t 0) + 1)) 1) + (y (o + 3))))) (o + 2)) - (10 * ((upd y (o + 2) ((y (o + 2)) + (((upd t 0 ((t 0) + 1)) 1) + (y (o + 3))))) (o + 1))))) (o + 4) (((upd (upd y (o + 2) ((y (o + 2)) + (((upd t 0 ((t 0) + 1)) 1) + (y (o + 3))))) (o + 2) (((upd y (o + 2) ((y (o + 2)) + (((upd t 0 ((t 0) + 1)) 1) + (y (o + 3))))) (o + 2)) - (10 * ((upd y (o + 2) ((y (o + 2)) + (((upd t 0 ((t 0) + 1)) 1) + (y (o + 3))))) (o + 1))))) (o + 4)) + 1)) (o + 3)) + 1)) (o + 3)))), (3, .int q), (0, .ref bf), (1, .ref bk), (2, .ref bt)]) hx hb dL_minute_226 hl (k := 1) rfl (nI_add _ 7) (by decide) rfl (fun ls hl => ?_)
          refine lv_goto (tgt := 17) hx hb dL_minute_229 (by decide) ?_
          have w9 : tlW o (tlP o (tlS ((upd t 0 ((t 0) + 1)) 1) o y)) = 1 := (if_pos c_12).trans (if_neg c_13)
          have T9 : turnL ((upd t 0 ((t 0) + 1)) 1) o y q = (upd (tlP o (tlS ((upd t 0 ((t 0) + 1)) 1) o y)) (o + 3) ((tlP o (tlS ((upd t 0 ((t 0) + 1)) 1) o y)) (o + 3) + tlW o (tlP o (tlS ((upd t 0 ((t 0) + 1)) 1) o y))), q) := if_pos c_11
          rw [w9] at T9
          exact ih (o + 7) (upd (upd (upd (upd y (o + 2) ((y (o + 2)) + (((upd t 0 ((t 0) + 1)) 1) + (y (o + 3))))) (o + 2) (((upd y (o + 2) ((y (o + 2)) + (((upd t 0 ((t 0) + 1)) 1) + (y (o + 3))))) (o + 2)) - (10 * ((upd y (o + 2) ((y (o + 2)) + (((upd t 0 ((t 0) + 1)) 1) + (y (o + 3))))) (o + 1))))) (o + 4) (((upd (upd y (o + 2) ((y (o + 2)) + (((upd t 0 ((t 0) + 1)) 1) + (y (o + 3))))) (o + 2) (((upd y (o + 2) ((y (o + 2)) + (((upd t 0 ((t 0) + 1)) 1) + (y (o + 3))))) (o + 2)) - (10 * ((upd y (o + 2) ((y (o + 2)) + (((upd t 0 ((t 0) + 1)) 1) + (y (o + 3))))) (o + 1))))) (o + 4)) + 1)) (o + 3) (((upd (upd (upd y (o + 2) ((y (o + 2)) + (((upd t 0 ((t 0) + 1)) 1) + (y (o + 3))))) (o + 2) (((upd y (o + 2) ((y (o + 2)) + (((upd t 0 ((t 0) + 1)) 1) + (y (o + 3))))) (o + 2)) - (10 * ((upd y (o + 2) ((y (o + 2)) + (((upd t 0 ((t 0) + 1)) 1) + (y (o + 3))))) (o + 1))))) (o + 4) (((upd (upd y (o + 2) ((y (o + 2)) + (((upd t 0 ((t 0) + 1)) 1) + (y (o + 3))))) (o + 2) (((upd y (o + 2) ((y (o + 2)) + (((upd t 0 ((t 0) + 1)) 1) + (y (o + 3))))) (o + 2)) - (10 * ((upd y (o + 2) ((y (o + 2)) + (((upd t 0 ((t 0) + 1)) 1) + (y (o + 3))))) (o + 1))))) (o + 4)) + 1)) (o + 3)) + 1)) q (r + ((upd (upd (upd (upd y (o + 2) ((y (o + 2)) + (((upd t 0 ((t 0) + 1)) 1) + (y (o + 3))))) (o + 2) (((upd y (o + 2) ((y (o + 2)) + (((upd t 0 ((t 0) + 1)) 1) + (y (o + 3))))) (o + 2)) - (10 * ((upd y (o + 2) ((y (o + 2)) + (((upd t 0 ((t 0) + 1)) 1) + (y (o + 3))))) (o + 1))))) (o + 4) (((upd (upd y (o + 2) ((y (o + 2)) + (((upd t 0 ((t 0) + 1)) 1) + (y (o + 3))))) (o + 2) (((upd y (o + 2) ((y (o + 2)) + (((upd t 0 ((t 0) + 1)) 1) + (y (o + 3))))) (o + 2)) - (10 * ((upd y (o + 2) ((y (o + 2)) + (((upd t 0 ((t 0) + 1)) 1) + (y (o + 3))))) (o + 1))))) (o + 4)) + 1)) (o + 3) (((upd (upd (upd y (o + 2) ((y (o + 2)) + (((upd t 0 ((t 0) + 1)) 1) + (y (o + 3))))) (o + 2) (((upd y (o + 2) ((y (o + 2)) + (((upd t 0 ((t 0) + 1)) 1) + (y (o + 3))))) (o + 2)) - (10 * ((upd y (o + 2) ((y (o + 2)) + (((upd t 0 ((t 0) + 1)) 1) + (y (o + 3))))) (o + 1))))) (o + 4) (((upd (upd y (o + 2) ((y (o + 2)) + (((upd t 0 ((t 0) + 1)) 1) + (y (o + 3))))) (o + 2) (((upd y (o + 2) ((y (o + 2)) + (((upd t 0 ((t 0) + 1)) 1) + (y (o + 3))))) (o + 2)) - (10 * ((upd y (o + 2) ((y (o + 2)) + (((upd t 0 ((t 0) + 1)) 1) + (y (o + 3))))) (o + 1))))) (o + 4)) + 1)) (o + 3)) + 1)) (o + 3))) (by omega) (by rw [← ht]; show _ = turnsL ((upd t 0 ((t 0) + 1)) 1) n (o + 7) (turnL ((upd t 0 ((t 0) + 1)) 1) o y q).1 (turnL ((upd t 0 ((t 0) + 1)) 1) o y q).2 (r + (turnL ((upd t 0 ((t 0) + 1)) 1) o y q).1 (o + 3)); rw [T9]; rfl) ls _ _ hP hD hS (lv_sub hl [0, 2, 1, 3, 4, 5] rfl)
    · refine lv_aload_n hx hb dL_minute_61 rfl (lv_at hl 3 rfl) ?_
      refine lv_iload hx hb dL_minute_62 (lv_at hl 0 rfl) ?_
      refine lv_aload_n hx hb dL_minute_64 rfl (lv_at hl 3 rfl) ?_
      refine lv_iload hx hb dL_minute_65 (lv_at hl 0 rfl) ?_
      refine x_iald (v := ((upd y (o + 2) ((y (o + 2)) + (((upd t 0 ((t 0) + 1)) 1) + (y (o + 3))))) o)) X 0 o hP rfl rfl (by omega) (Nat.le_of_ble_eq_true rfl) rfl dL_minute_67 ?_
      refine lv_sipush (v := 719) hx hb dL_minute_68 (by decide) ?_
      refine lv_icmp_ne (tgt := 78) hx hb dL_minute_71 (by decide) (fun (c_14 : ¬ ((upd y (o + 2) ((y (o + 2)) + (((upd t 0 ((t 0) + 1)) 1) + (y (o + 3))))) o) = 719) => ?_) (fun (c_14 : ((upd y (o + 2) ((y (o + 2)) + (((upd t 0 ((t 0) + 1)) 1) + (y (o + 3))))) o) = 719) => ?_)
      · refine lv_aload_n hx hb dL_minute_78 rfl (lv_at hl 3 rfl) ?_
        refine lv_iload hx hb dL_minute_79 (lv_at hl 0 rfl) ?_
        refine x_iald (v := ((upd y (o + 2) ((y (o + 2)) + (((upd t 0 ((t 0) + 1)) 1) + (y (o + 3))))) o)) X 0 o hP rfl rfl (by omega) (Nat.le_of_ble_eq_true rfl) rfl dL_minute_81 ?_
        refine lv_iconst (v := 1) hx hb dL_minute_82 (by decide) ?_
        refine lv_iadd hx hb dL_minute_83 ?_
        refine x_iast (ws2 := [(bf, .inl (g.2 0, 28, .inl (upd (upd y (o + 2) ((y (o + 2)) + (((upd t 0 ((t 0) + 1)) 1) + (y (o + 3))))) o (((upd y (o + 2) ((y (o + 2)) + (((upd t 0 ((t 0) + 1)) 1) + (y (o + 3))))) o) + 1)))), (bk, .inl (g.2 0, 12, .inl k)), (bt, .inl (g.2 0, 8, .inl (upd t 0 ((t 0) + 1))))]) X 0 o hP hD hS rfl rfl (by omega) (Nat.le_of_ble_eq_true rfl) rfl dL_minute_84 (fun H locs hP hD hS => ?_)
        refine lv_aload_n hx hb dL_minute_85 rfl (lv_at hl 3 rfl) ?_
        refine lv_iload hx hb dL_minute_86 (lv_at hl 0 rfl) ?_
        refine lv_iconst (v := 5) hx hb dL_minute_88 (by decide) ?_
        refine lv_iadd hx hb dL_minute_89 ?_
        refine x_iald (v := ((upd (upd y (o + 2) ((y (o + 2)) + (((upd t 0 ((t 0) + 1)) 1) + (y (o + 3))))) o (((upd y (o + 2) ((y (o + 2)) + (((upd t 0 ((t 0) + 1)) 1) + (y (o + 3))))) o) + 1)) (o + 5))) X 0 (o + 5) hP rfl (z_add rfl rfl) (by omega) (Nat.le_of_ble_eq_true rfl) rfl dL_minute_90 ?_
        refine lv_if_eq (tgt := 104) hx hb dL_minute_91 (by decide) (fun (c_15 : ((upd (upd y (o + 2) ((y (o + 2)) + (((upd t 0 ((t 0) + 1)) 1) + (y (o + 3))))) o (((upd y (o + 2) ((y (o + 2)) + (((upd t 0 ((t 0) + 1)) 1) + (y (o + 3))))) o) + 1)) (o + 5)) = 0) => ?_) (fun (c_15 : ¬ ((upd (upd y (o + 2) ((y (o + 2)) + (((upd t 0 ((t 0) + 1)) 1) + (y (o + 3))))) o (((upd y (o + 2) ((y (o + 2)) + (((upd t 0 ((t 0) + 1)) 1) + (y (o + 3))))) o) + 1)) (o + 5)) = 0) => ?_)
        · refine lv_iconst (v := 0) hx hb dL_minute_104 (by decide) ?_
          refine lv_goto (tgt := 129) hx hb dL_minute_105 (by decide) ?_
          refine lv_istore (lv' := [(6, .int 0), (5, .int (nI o)), (3, .int q), (4, .int r), (0, .ref bf), (1, .ref bk), (2, .ref bt)]) hx hb dL_minute_129 hl (by decide) rfl (fun ls hl => ?_)
          refine lv_aload_n hx hb dL_minute_131 rfl (lv_at hl 4 rfl) ?_
          refine lv_iload hx hb dL_minute_132 (lv_at hl 1 rfl) ?_
          refine lv_bipush (v := 6) hx hb dL_minute_134 (by decide) ?_
          refine lv_iadd hx hb dL_minute_136 ?_
          refine lv_dup2_11 hx hb dL_minute_137 rfl rfl ?_
          refine x_iald (v := ((upd (upd y (o + 2) ((y (o + 2)) + (((upd t 0 ((t 0) + 1)) 1) + (y (o + 3))))) o (((upd y (o + 2) ((y (o + 2)) + (((upd t 0 ((t 0) + 1)) 1) + (y (o + 3))))) o) + 1)) (o + 6))) X 0 (o + 6) hP rfl (z_add rfl rfl) (by omega) (Nat.le_of_ble_eq_true rfl) rfl dL_minute_138 ?_
          refine lv_iload hx hb dL_minute_139 (lv_at hl 0 rfl) ?_
          refine lv_iadd hx hb dL_minute_141 ?_
          refine x_iast (ws2 := [(bf, .inl (g.2 0, 28, .inl (upd (upd (upd y (o + 2) ((y (o + 2)) + (((upd t 0 ((t 0) + 1)) 1) + (y (o + 3))))) o (((upd y (o + 2) ((y (o + 2)) + (((upd t 0 ((t 0) + 1)) 1) + (y (o + 3))))) o) + 1)) (o + 6) (((upd (upd y (o + 2) ((y (o + 2)) + (((upd t 0 ((t 0) + 1)) 1) + (y (o + 3))))) o (((upd y (o + 2) ((y (o + 2)) + (((upd t 0 ((t 0) + 1)) 1) + (y (o + 3))))) o) + 1)) (o + 6)) + 0)))), (bk, .inl (g.2 0, 12, .inl k)), (bt, .inl (g.2 0, 8, .inl (upd t 0 ((t 0) + 1))))]) X 0 (o + 6) hP hD hS rfl (z_add rfl rfl) (by omega) (Nat.le_of_ble_eq_true rfl) rfl dL_minute_142 (fun H locs hP hD hS => ?_)
          refine lv_iload_n hx hb dL_minute_143 rfl (lv_at hl 2 rfl) ?_
          refine lv_iload hx hb dL_minute_144 (lv_at hl 0 rfl) ?_
          refine lv_iadd hx hb dL_minute_146 ?_
          refine lv_istore_n (lv' := [(3, .int (q + 0)), (6, .int 0), (5, .int (nI o)), (4, .int r), (0, .ref bf), (1, .ref bk), (2, .ref bt)]) hx hb dL_minute_147 rfl hl (by decide) rfl (fun ls hl => ?_)
          refine lv_goto (tgt := 215) hx hb dL_minute_148 (by decide) ?_
          refine lv_iload hx hb dL_minute_215 (lv_at hl 3 rfl) ?_
          refine lv_aload_n hx hb dL_minute_217 rfl (lv_at hl 4 rfl) ?_
          refine lv_iload hx hb dL_minute_218 (lv_at hl 2 rfl) ?_
          refine lv_iconst (v := 3) hx hb dL_minute_220 (by decide) ?_
          refine lv_iadd hx hb dL_minute_221 ?_
          refine x_iald (v := ((upd (upd (upd y (o + 2) ((y (o + 2)) + (((upd t 0 ((t 0) + 1)) 1) + (y (o + 3))))) o (((upd y (o + 2) ((y (o + 2)) + (((upd t 0 ((t 0) + 1)) 1) + (y (o + 3))))) o) + 1)) (o + 6) (((upd (upd y (o + 2) ((y (o + 2)) + (((upd t 0 ((t 0) + 1)) 1) + (y (o + 3))))) o (((upd y (o + 2) ((y (o + 2)) + (((upd t 0 ((t 0) + 1)) 1) + (y (o + 3))))) o) + 1)) (o + 6)) + 0)) (o + 3))) X 0 (o + 3) hP rfl (z_add rfl rfl) (by omega) (Nat.le_of_ble_eq_true rfl) rfl dL_minute_222 ?_
          refine lv_iadd hx hb dL_minute_223 ?_
          refine lv_istore (lv' := [(4, .int (r + ((upd (upd (upd y (o + 2) ((y (o + 2)) + (((upd t 0 ((t 0) + 1)) 1) + (y (o + 3))))) o (((upd y (o + 2) ((y (o + 2)) + (((upd t 0 ((t 0) + 1)) 1) + (y (o + 3))))) o) + 1)) (o + 6) (((upd (upd y (o + 2) ((y (o + 2)) + (((upd t 0 ((t 0) + 1)) 1) + (y (o + 3))))) o (((upd y (o + 2) ((y (o + 2)) + (((upd t 0 ((t 0) + 1)) 1) + (y (o + 3))))) o) + 1)) (o + 6)) + 0)) (o + 3)))), (3, .int (q + 0)), (6, .int 0), (5, .int (nI o)), (0, .ref bf), (1, .ref bk), (2, .ref bt)]) hx hb dL_minute_224 hl (by decide) rfl (fun ls hl => ?_)
          refine lv_iinc (v := (nI (o + 7))) (lv' := [(5, .int (nI (o + 7))), (4, .int (r + ((upd (upd (upd y (o + 2) ((y (o + 2)) + (((upd t 0 ((t 0) + 1)) 1) + (y (o + 3))))) o (((upd y (o + 2) ((y (o + 2)) + (((upd t 0 ((t 0) + 1)) 1) + (y (o + 3))))) o) + 1)) (o + 6) (((upd (upd y (o + 2) ((y (o + 2)) + (((upd t 0 ((t 0) + 1)) 1) + (y (o + 3))))) o (((upd y (o + 2) ((y (o + 2)) + (((upd t 0 ((t 0) + 1)) 1) + (y (o + 3))))) o) + 1)) (o + 6)) + 0)) (o + 3)))), (3, .int (q + 0)), (6, .int 0), (0, .ref bf), (1, .ref bk), (2, .ref bt)]) hx hb dL_minute_226 hl (k := 3) rfl (nI_add _ 7) (by decide) rfl (fun ls hl => ?_)
          refine lv_goto (tgt := 17) hx hb dL_minute_229 (by decide) ?_
          have D9 : tlD ((upd t 0 ((t 0) + 1)) 1) o y = upd (tlS ((upd t 0 ((t 0) + 1)) 1) o y) o ((tlS ((upd t 0 ((t 0) + 1)) 1) o y) o + 1) := congrArg (upd (tlS ((upd t 0 ((t 0) + 1)) 1) o y) o) (if_neg c_14)
          have n9 : tlN o (upd (tlS ((upd t 0 ((t 0) + 1)) 1) o y) o ((tlS ((upd t 0 ((t 0) + 1)) 1) o y) o + 1)) = 0 := if_pos c_15
          have T9 : turnL ((upd t 0 ((t 0) + 1)) 1) o y q = (upd (tlD ((upd t 0 ((t 0) + 1)) 1) o y) (o + 6) (tlD ((upd t 0 ((t 0) + 1)) 1) o y (o + 6) + tlN o (tlD ((upd t 0 ((t 0) + 1)) 1) o y)), q + tlN o (tlD ((upd t 0 ((t 0) + 1)) 1) o y)) := if_neg c_11
          rw [D9, n9] at T9
          exact ih (o + 7) (upd (upd (upd y (o + 2) ((y (o + 2)) + (((upd t 0 ((t 0) + 1)) 1) + (y (o + 3))))) o (((upd y (o + 2) ((y (o + 2)) + (((upd t 0 ((t 0) + 1)) 1) + (y (o + 3))))) o) + 1)) (o + 6) (((upd (upd y (o + 2) ((y (o + 2)) + (((upd t 0 ((t 0) + 1)) 1) + (y (o + 3))))) o (((upd y (o + 2) ((y (o + 2)) + (((upd t 0 ((t 0) + 1)) 1) + (y (o + 3))))) o) + 1)) (o + 6)) + 0)) (q + 0) (r + ((upd (upd (upd y (o + 2) ((y (o + 2)) + (((upd t 0 ((t 0) + 1)) 1) + (y (o + 3))))) o (((upd y (o + 2) ((y (o + 2)) + (((upd t 0 ((t 0) + 1)) 1) + (y (o + 3))))) o) + 1)) (o + 6) (((upd (upd y (o + 2) ((y (o + 2)) + (((upd t 0 ((t 0) + 1)) 1) + (y (o + 3))))) o (((upd y (o + 2) ((y (o + 2)) + (((upd t 0 ((t 0) + 1)) 1) + (y (o + 3))))) o) + 1)) (o + 6)) + 0)) (o + 3))) (by omega) (by rw [← ht]; show _ = turnsL ((upd t 0 ((t 0) + 1)) 1) n (o + 7) (turnL ((upd t 0 ((t 0) + 1)) 1) o y q).1 (turnL ((upd t 0 ((t 0) + 1)) 1) o y q).2 (r + (turnL ((upd t 0 ((t 0) + 1)) 1) o y q).1 (o + 3)); rw [T9]; rfl) ls _ _ hP hD hS (lv_sub hl [0, 2, 1, 4, 5, 6] rfl)
        · refine lv_aload_n hx hb dL_minute_94 rfl (lv_at hl 3 rfl) ?_
          refine lv_iload hx hb dL_minute_95 (lv_at hl 0 rfl) ?_
          refine x_iald (v := ((upd (upd y (o + 2) ((y (o + 2)) + (((upd t 0 ((t 0) + 1)) 1) + (y (o + 3))))) o (((upd y (o + 2) ((y (o + 2)) + (((upd t 0 ((t 0) + 1)) 1) + (y (o + 3))))) o) + 1)) o)) X 0 o hP rfl rfl (by omega) (Nat.le_of_ble_eq_true rfl) rfl dL_minute_97 ?_
          refine lv_bipush (v := 60) hx hb dL_minute_98 (by decide) ?_
          refine lv_irem hx hb dL_minute_100 (by decide) ?_
          refine lv_if_le (tgt := 108) hx hb dL_minute_101 (by decide) (fun (c_16 : (jrem ((upd (upd y (o + 2) ((y (o + 2)) + (((upd t 0 ((t 0) + 1)) 1) + (y (o + 3))))) o (((upd y (o + 2) ((y (o + 2)) + (((upd t 0 ((t 0) + 1)) 1) + (y (o + 3))))) o) + 1)) o) 60) ≤ 0) => ?_) (fun (c_16 : ¬ (jrem ((upd (upd y (o + 2) ((y (o + 2)) + (((upd t 0 ((t 0) + 1)) 1) + (y (o + 3))))) o (((upd y (o + 2) ((y (o + 2)) + (((upd t 0 ((t 0) + 1)) 1) + (y (o + 3))))) o) + 1)) o) 60) ≤ 0) => ?_)
          · refine lv_aload_n hx hb dL_minute_108 rfl (lv_at hl 3 rfl) ?_
            refine lv_iload hx hb dL_minute_109 (lv_at hl 0 rfl) ?_
            refine x_iald (v := ((upd (upd y (o + 2) ((y (o + 2)) + (((upd t 0 ((t 0) + 1)) 1) + (y (o + 3))))) o (((upd y (o + 2) ((y (o + 2)) + (((upd t 0 ((t 0) + 1)) 1) + (y (o + 3))))) o) + 1)) o)) X 0 o hP rfl rfl (by omega) (Nat.le_of_ble_eq_true rfl) rfl dL_minute_111 ?_
            refine lv_bipush (v := 60) hx hb dL_minute_112 (by decide) ?_
            refine lv_icmp_ge (tgt := 122) hx hb dL_minute_114 (by decide) (fun (c_17 : 60 ≤ ((upd (upd y (o + 2) ((y (o + 2)) + (((upd t 0 ((t 0) + 1)) 1) + (y (o + 3))))) o (((upd y (o + 2) ((y (o + 2)) + (((upd t 0 ((t 0) + 1)) 1) + (y (o + 3))))) o) + 1)) o)) => ?_) (fun (c_17 : ¬ 60 ≤ ((upd (upd y (o + 2) ((y (o + 2)) + (((upd t 0 ((t 0) + 1)) 1) + (y (o + 3))))) o (((upd y (o + 2) ((y (o + 2)) + (((upd t 0 ((t 0) + 1)) 1) + (y (o + 3))))) o) + 1)) o)) => ?_)
            · refine lv_aload_n hx hb dL_minute_122 rfl (lv_at hl 3 rfl) ?_
              refine lv_iload hx hb dL_minute_123 (lv_at hl 0 rfl) ?_
              refine x_iald (v := ((upd (upd y (o + 2) ((y (o + 2)) + (((upd t 0 ((t 0) + 1)) 1) + (y (o + 3))))) o (((upd y (o + 2) ((y (o + 2)) + (((upd t 0 ((t 0) + 1)) 1) + (y (o + 3))))) o) + 1)) o)) X 0 o hP rfl rfl (by omega) (Nat.le_of_ble_eq_true rfl) rfl dL_minute_125 ?_
              refine lv_bipush (v := 60) hx hb dL_minute_126 (by decide) ?_
              refine lv_idiv hx hb dL_minute_128 (by decide) ?_
              refine lv_istore (lv' := [(6, .int (((upd (upd y (o + 2) ((y (o + 2)) + (((upd t 0 ((t 0) + 1)) 1) + (y (o + 3))))) o (((upd y (o + 2) ((y (o + 2)) + (((upd t 0 ((t 0) + 1)) 1) + (y (o + 3))))) o) + 1)) o) / 60)), (5, .int (nI o)), (3, .int q), (4, .int r), (0, .ref bf), (1, .ref bk), (2, .ref bt)]) hx hb dL_minute_129 hl (by decide) rfl (fun ls hl => ?_)
              refine lv_aload_n hx hb dL_minute_131 rfl (lv_at hl 4 rfl) ?_
              refine lv_iload hx hb dL_minute_132 (lv_at hl 1 rfl) ?_
              refine lv_bipush (v := 6) hx hb dL_minute_134 (by decide) ?_
              refine lv_iadd hx hb dL_minute_136 ?_
              refine lv_dup2_11 hx hb dL_minute_137 rfl rfl ?_
              refine x_iald (v := ((upd (upd y (o + 2) ((y (o + 2)) + (((upd t 0 ((t 0) + 1)) 1) + (y (o + 3))))) o (((upd y (o + 2) ((y (o + 2)) + (((upd t 0 ((t 0) + 1)) 1) + (y (o + 3))))) o) + 1)) (o + 6))) X 0 (o + 6) hP rfl (z_add rfl rfl) (by omega) (Nat.le_of_ble_eq_true rfl) rfl dL_minute_138 ?_
              refine lv_iload hx hb dL_minute_139 (lv_at hl 0 rfl) ?_
              refine lv_iadd hx hb dL_minute_141 ?_
              refine x_iast (ws2 := [(bf, .inl (g.2 0, 28, .inl (upd (upd (upd y (o + 2) ((y (o + 2)) + (((upd t 0 ((t 0) + 1)) 1) + (y (o + 3))))) o (((upd y (o + 2) ((y (o + 2)) + (((upd t 0 ((t 0) + 1)) 1) + (y (o + 3))))) o) + 1)) (o + 6) (((upd (upd y (o + 2) ((y (o + 2)) + (((upd t 0 ((t 0) + 1)) 1) + (y (o + 3))))) o (((upd y (o + 2) ((y (o + 2)) + (((upd t 0 ((t 0) + 1)) 1) + (y (o + 3))))) o) + 1)) (o + 6)) + (((upd (upd y (o + 2) ((y (o + 2)) + (((upd t 0 ((t 0) + 1)) 1) + (y (o + 3))))) o (((upd y (o + 2) ((y (o + 2)) + (((upd t 0 ((t 0) + 1)) 1) + (y (o + 3))))) o) + 1)) o) / 60))))), (bk, .inl (g.2 0, 12, .inl k)), (bt, .inl (g.2 0, 8, .inl (upd t 0 ((t 0) + 1))))]) X 0 (o + 6) hP hD hS rfl (z_add rfl rfl) (by omega) (Nat.le_of_ble_eq_true rfl) rfl dL_minute_142 (fun H locs hP hD hS => ?_)
              refine lv_iload_n hx hb dL_minute_143 rfl (lv_at hl 2 rfl) ?_
              refine lv_iload hx hb dL_minute_144 (lv_at hl 0 rfl) ?_
              refine lv_iadd hx hb dL_minute_146 ?_
              refine lv_istore_n (lv' := [(3, .int (q + (((upd (upd y (o + 2) ((y (o + 2)) + (((upd t 0 ((t 0) + 1)) 1) + (y (o + 3))))) o (((upd y (o + 2) ((y (o + 2)) + (((upd t 0 ((t 0) + 1)) 1) + (y (o + 3))))) o) + 1)) o) / 60))), (6, .int (((upd (upd y (o + 2) ((y (o + 2)) + (((upd t 0 ((t 0) + 1)) 1) + (y (o + 3))))) o (((upd y (o + 2) ((y (o + 2)) + (((upd t 0 ((t 0) + 1)) 1) + (y (o + 3))))) o) + 1)) o) / 60)), (5, .int (nI o)), (4, .int r), (0, .ref bf), (1, .ref bk), (2, .ref bt)]) hx hb dL_minute_147 rfl hl (by decide) rfl (fun ls hl => ?_)
              refine lv_goto (tgt := 215) hx hb dL_minute_148 (by decide) ?_
              refine lv_iload hx hb dL_minute_215 (lv_at hl 3 rfl) ?_
              refine lv_aload_n hx hb dL_minute_217 rfl (lv_at hl 4 rfl) ?_
              refine lv_iload hx hb dL_minute_218 (lv_at hl 2 rfl) ?_
              refine lv_iconst (v := 3) hx hb dL_minute_220 (by decide) ?_
              refine lv_iadd hx hb dL_minute_221 ?_
              refine x_iald (v := ((upd (upd (upd y (o + 2) ((y (o + 2)) + (((upd t 0 ((t 0) + 1)) 1) + (y (o + 3))))) o (((upd y (o + 2) ((y (o + 2)) + (((upd t 0 ((t 0) + 1)) 1) + (y (o + 3))))) o) + 1)) (o + 6) (((upd (upd y (o + 2) ((y (o + 2)) + (((upd t 0 ((t 0) + 1)) 1) + (y (o + 3))))) o (((upd y (o + 2) ((y (o + 2)) + (((upd t 0 ((t 0) + 1)) 1) + (y (o + 3))))) o) + 1)) (o + 6)) + (((upd (upd y (o + 2) ((y (o + 2)) + (((upd t 0 ((t 0) + 1)) 1) + (y (o + 3))))) o (((upd y (o + 2) ((y (o + 2)) + (((upd t 0 ((t 0) + 1)) 1) + (y (o + 3))))) o) + 1)) o) / 60))) (o + 3))) X 0 (o + 3) hP rfl (z_add rfl rfl) (by omega) (Nat.le_of_ble_eq_true rfl) rfl dL_minute_222 ?_
              refine lv_iadd hx hb dL_minute_223 ?_
              refine lv_istore (lv' := [(4, .int (r + ((upd (upd (upd y (o + 2) ((y (o + 2)) + (((upd t 0 ((t 0) + 1)) 1) + (y (o + 3))))) o (((upd y (o + 2) ((y (o + 2)) + (((upd t 0 ((t 0) + 1)) 1) + (y (o + 3))))) o) + 1)) (o + 6) (((upd (upd y (o + 2) ((y (o + 2)) + (((upd t 0 ((t 0) + 1)) 1) + (y (o + 3))))) o (((upd y (o + 2) ((y (o + 2)) + (((upd t 0 ((t 0) + 1)) 1) + (y (o + 3))))) o) + 1)) (o + 6)) + (((upd (upd y (o + 2) ((y (o + 2)) + (((upd t 0 ((t 0) + 1)) 1) + (y (o + 3))))) o (((upd y (o + 2) ((y (o + 2)) + (((upd t 0 ((t 0) + 1)) 1) + (y (o + 3))))) o) + 1)) o) / 60))) (o + 3)))), (3, .int (q + (((upd (upd y (o + 2) ((y (o + 2)) + (((upd t 0 ((t 0) + 1)) 1) + (y (o + 3))))) o (((upd y (o + 2) ((y (o + 2)) + (((upd t 0 ((t 0) + 1)) 1) + (y (o + 3))))) o) + 1)) o) / 60))), (6, .int (((upd (upd y (o + 2) ((y (o + 2)) + (((upd t 0 ((t 0) + 1)) 1) + (y (o + 3))))) o (((upd y (o + 2) ((y (o + 2)) + (((upd t 0 ((t 0) + 1)) 1) + (y (o + 3))))) o) + 1)) o) / 60)), (5, .int (nI o)), (0, .ref bf), (1, .ref bk), (2, .ref bt)]) hx hb dL_minute_224 hl (by decide) rfl (fun ls hl => ?_)
              refine lv_iinc (v := (nI (o + 7))) (lv' := [(5, .int (nI (o + 7))), (4, .int (r + ((upd (upd (upd y (o + 2) ((y (o + 2)) + (((upd t 0 ((t 0) + 1)) 1) + (y (o + 3))))) o (((upd y (o + 2) ((y (o + 2)) + (((upd t 0 ((t 0) + 1)) 1) + (y (o + 3))))) o) + 1)) (o + 6) (((upd (upd y (o + 2) ((y (o + 2)) + (((upd t 0 ((t 0) + 1)) 1) + (y (o + 3))))) o (((upd y (o + 2) ((y (o + 2)) + (((upd t 0 ((t 0) + 1)) 1) + (y (o + 3))))) o) + 1)) (o + 6)) + (((upd (upd y (o + 2) ((y (o + 2)) + (((upd t 0 ((t 0) + 1)) 1) + (y (o + 3))))) o (((upd y (o + 2) ((y (o + 2)) + (((upd t 0 ((t 0) + 1)) 1) + (y (o + 3))))) o) + 1)) o) / 60))) (o + 3)))), (3, .int (q + (((upd (upd y (o + 2) ((y (o + 2)) + (((upd t 0 ((t 0) + 1)) 1) + (y (o + 3))))) o (((upd y (o + 2) ((y (o + 2)) + (((upd t 0 ((t 0) + 1)) 1) + (y (o + 3))))) o) + 1)) o) / 60))), (6, .int (((upd (upd y (o + 2) ((y (o + 2)) + (((upd t 0 ((t 0) + 1)) 1) + (y (o + 3))))) o (((upd y (o + 2) ((y (o + 2)) + (((upd t 0 ((t 0) + 1)) 1) + (y (o + 3))))) o) + 1)) o) / 60)), (0, .ref bf), (1, .ref bk), (2, .ref bt)]) hx hb dL_minute_226 hl (k := 3) rfl (nI_add _ 7) (by decide) rfl (fun ls hl => ?_)
              refine lv_goto (tgt := 17) hx hb dL_minute_229 (by decide) ?_
              have D9 : tlD ((upd t 0 ((t 0) + 1)) 1) o y = upd (tlS ((upd t 0 ((t 0) + 1)) 1) o y) o ((tlS ((upd t 0 ((t 0) + 1)) 1) o y) o + 1) := congrArg (upd (tlS ((upd t 0 ((t 0) + 1)) 1) o y) o) (if_neg c_14)
              have n9 : tlN o (upd (tlS ((upd t 0 ((t 0) + 1)) 1) o y) o ((tlS ((upd t 0 ((t 0) + 1)) 1) o y) o + 1)) = ((upd (tlS ((upd t 0 ((t 0) + 1)) 1) o y) o ((tlS ((upd t 0 ((t 0) + 1)) 1) o y) o + 1)) o / 60) := (if_neg c_15).trans ((if_pos c_16).trans (if_pos c_17))
              have T9 : turnL ((upd t 0 ((t 0) + 1)) 1) o y q = (upd (tlD ((upd t 0 ((t 0) + 1)) 1) o y) (o + 6) (tlD ((upd t 0 ((t 0) + 1)) 1) o y (o + 6) + tlN o (tlD ((upd t 0 ((t 0) + 1)) 1) o y)), q + tlN o (tlD ((upd t 0 ((t 0) + 1)) 1) o y)) := if_neg c_11
              rw [D9, n9] at T9
              exact ih (o + 7) (upd (upd (upd y (o + 2) ((y (o + 2)) + (((upd t 0 ((t 0) + 1)) 1) + (y (o + 3))))) o (((upd y (o + 2) ((y (o + 2)) + (((upd t 0 ((t 0) + 1)) 1) + (y (o + 3))))) o) + 1)) (o + 6) (((upd (upd y (o + 2) ((y (o + 2)) + (((upd t 0 ((t 0) + 1)) 1) + (y (o + 3))))) o (((upd y (o + 2) ((y (o + 2)) + (((upd t 0 ((t 0) + 1)) 1) + (y (o + 3))))) o) + 1)) (o + 6)) + (((upd (upd y (o + 2) ((y (o + 2)) + (((upd t 0 ((t 0) + 1)) 1) + (y (o + 3))))) o (((upd y (o + 2) ((y (o + 2)) + (((upd t 0 ((t 0) + 1)) 1) + (y (o + 3))))) o) + 1)) o) / 60))) (q + (((upd (upd y (o + 2) ((y (o + 2)) + (((upd t 0 ((t 0) + 1)) 1) + (y (o + 3))))) o (((upd y (o + 2) ((y (o + 2)) + (((upd t 0 ((t 0) + 1)) 1) + (y (o + 3))))) o) + 1)) o) / 60)) (r + ((upd (upd (upd y (o + 2) ((y (o + 2)) + (((upd t 0 ((t 0) + 1)) 1) + (y (o + 3))))) o (((upd y (o + 2) ((y (o + 2)) + (((upd t 0 ((t 0) + 1)) 1) + (y (o + 3))))) o) + 1)) (o + 6) (((upd (upd y (o + 2) ((y (o + 2)) + (((upd t 0 ((t 0) + 1)) 1) + (y (o + 3))))) o (((upd y (o + 2) ((y (o + 2)) + (((upd t 0 ((t 0) + 1)) 1) + (y (o + 3))))) o) + 1)) (o + 6)) + (((upd (upd y (o + 2) ((y (o + 2)) + (((upd t 0 ((t 0) + 1)) 1) + (y (o + 3))))) o (((upd y (o + 2) ((y (o + 2)) + (((upd t 0 ((t 0) + 1)) 1) + (y (o + 3))))) o) + 1)) o) / 60))) (o + 3))) (by omega) (by rw [← ht]; show _ = turnsL ((upd t 0 ((t 0) + 1)) 1) n (o + 7) (turnL ((upd t 0 ((t 0) + 1)) 1) o y q).1 (turnL ((upd t 0 ((t 0) + 1)) 1) o y q).2 (r + (turnL ((upd t 0 ((t 0) + 1)) 1) o y q).1 (o + 3)); rw [T9]; rfl) ls _ _ hP hD hS (lv_sub hl [0, 2, 1, 4, 5, 6] rfl)
            · refine lv_bipush (v := 12) hx hb dL_minute_117 (by decide) ?_
              refine lv_goto (tgt := 129) hx hb dL_minute_119 (by decide) ?_
              refine lv_istore (lv' := [(6, .int 12), (5, .int (nI o)), (3, .int q), (4, .int r), (0, .ref bf), (1, .ref bk), (2, .ref bt)]) hx hb dL_minute_129 hl (by decide) rfl (fun ls hl => ?_)
              refine lv_aload_n hx hb dL_minute_131 rfl (lv_at hl 4 rfl) ?_
              refine lv_iload hx hb dL_minute_132 (lv_at hl 1 rfl) ?_
              refine lv_bipush (v := 6) hx hb dL_minute_134 (by decide) ?_
              refine lv_iadd hx hb dL_minute_136 ?_
              refine lv_dup2_11 hx hb dL_minute_137 rfl rfl ?_
              refine x_iald (v := ((upd (upd y (o + 2) ((y (o + 2)) + (((upd t 0 ((t 0) + 1)) 1) + (y (o + 3))))) o (((upd y (o + 2) ((y (o + 2)) + (((upd t 0 ((t 0) + 1)) 1) + (y (o + 3))))) o) + 1)) (o + 6))) X 0 (o + 6) hP rfl (z_add rfl rfl) (by omega) (Nat.le_of_ble_eq_true rfl) rfl dL_minute_138 ?_
              refine lv_iload hx hb dL_minute_139 (lv_at hl 0 rfl) ?_
              refine lv_iadd hx hb dL_minute_141 ?_
              refine x_iast (ws2 := [(bf, .inl (g.2 0, 28, .inl (upd (upd (upd y (o + 2) ((y (o + 2)) + (((upd t 0 ((t 0) + 1)) 1) + (y (o + 3))))) o (((upd y (o + 2) ((y (o + 2)) + (((upd t 0 ((t 0) + 1)) 1) + (y (o + 3))))) o) + 1)) (o + 6) (((upd (upd y (o + 2) ((y (o + 2)) + (((upd t 0 ((t 0) + 1)) 1) + (y (o + 3))))) o (((upd y (o + 2) ((y (o + 2)) + (((upd t 0 ((t 0) + 1)) 1) + (y (o + 3))))) o) + 1)) (o + 6)) + 12)))), (bk, .inl (g.2 0, 12, .inl k)), (bt, .inl (g.2 0, 8, .inl (upd t 0 ((t 0) + 1))))]) X 0 (o + 6) hP hD hS rfl (z_add rfl rfl) (by omega) (Nat.le_of_ble_eq_true rfl) rfl dL_minute_142 (fun H locs hP hD hS => ?_)
              refine lv_iload_n hx hb dL_minute_143 rfl (lv_at hl 2 rfl) ?_
              refine lv_iload hx hb dL_minute_144 (lv_at hl 0 rfl) ?_
              refine lv_iadd hx hb dL_minute_146 ?_
              refine lv_istore_n (lv' := [(3, .int (q + 12)), (6, .int 12), (5, .int (nI o)), (4, .int r), (0, .ref bf), (1, .ref bk), (2, .ref bt)]) hx hb dL_minute_147 rfl hl (by decide) rfl (fun ls hl => ?_)
              refine lv_goto (tgt := 215) hx hb dL_minute_148 (by decide) ?_
              refine lv_iload hx hb dL_minute_215 (lv_at hl 3 rfl) ?_
              refine lv_aload_n hx hb dL_minute_217 rfl (lv_at hl 4 rfl) ?_
              refine lv_iload hx hb dL_minute_218 (lv_at hl 2 rfl) ?_
              refine lv_iconst (v := 3) hx hb dL_minute_220 (by decide) ?_
              refine lv_iadd hx hb dL_minute_221 ?_
              refine x_iald (v := ((upd (upd (upd y (o + 2) ((y (o + 2)) + (((upd t 0 ((t 0) + 1)) 1) + (y (o + 3))))) o (((upd y (o + 2) ((y (o + 2)) + (((upd t 0 ((t 0) + 1)) 1) + (y (o + 3))))) o) + 1)) (o + 6) (((upd (upd y (o + 2) ((y (o + 2)) + (((upd t 0 ((t 0) + 1)) 1) + (y (o + 3))))) o (((upd y (o + 2) ((y (o + 2)) + (((upd t 0 ((t 0) + 1)) 1) + (y (o + 3))))) o) + 1)) (o + 6)) + 12)) (o + 3))) X 0 (o + 3) hP rfl (z_add rfl rfl) (by omega) (Nat.le_of_ble_eq_true rfl) rfl dL_minute_222 ?_
              refine lv_iadd hx hb dL_minute_223 ?_
              refine lv_istore (lv' := [(4, .int (r + ((upd (upd (upd y (o + 2) ((y (o + 2)) + (((upd t 0 ((t 0) + 1)) 1) + (y (o + 3))))) o (((upd y (o + 2) ((y (o + 2)) + (((upd t 0 ((t 0) + 1)) 1) + (y (o + 3))))) o) + 1)) (o + 6) (((upd (upd y (o + 2) ((y (o + 2)) + (((upd t 0 ((t 0) + 1)) 1) + (y (o + 3))))) o (((upd y (o + 2) ((y (o + 2)) + (((upd t 0 ((t 0) + 1)) 1) + (y (o + 3))))) o) + 1)) (o + 6)) + 12)) (o + 3)))), (3, .int (q + 12)), (6, .int 12), (5, .int (nI o)), (0, .ref bf), (1, .ref bk), (2, .ref bt)]) hx hb dL_minute_224 hl (by decide) rfl (fun ls hl => ?_)
              refine lv_iinc (v := (nI (o + 7))) (lv' := [(5, .int (nI (o + 7))), (4, .int (r + ((upd (upd (upd y (o + 2) ((y (o + 2)) + (((upd t 0 ((t 0) + 1)) 1) + (y (o + 3))))) o (((upd y (o + 2) ((y (o + 2)) + (((upd t 0 ((t 0) + 1)) 1) + (y (o + 3))))) o) + 1)) (o + 6) (((upd (upd y (o + 2) ((y (o + 2)) + (((upd t 0 ((t 0) + 1)) 1) + (y (o + 3))))) o (((upd y (o + 2) ((y (o + 2)) + (((upd t 0 ((t 0) + 1)) 1) + (y (o + 3))))) o) + 1)) (o + 6)) + 12)) (o + 3)))), (3, .int (q + 12)), (6, .int 12), (0, .ref bf), (1, .ref bk), (2, .ref bt)]) hx hb dL_minute_226 hl (k := 3) rfl (nI_add _ 7) (by decide) rfl (fun ls hl => ?_)
              refine lv_goto (tgt := 17) hx hb dL_minute_229 (by decide) ?_
              have D9 : tlD ((upd t 0 ((t 0) + 1)) 1) o y = upd (tlS ((upd t 0 ((t 0) + 1)) 1) o y) o ((tlS ((upd t 0 ((t 0) + 1)) 1) o y) o + 1) := congrArg (upd (tlS ((upd t 0 ((t 0) + 1)) 1) o y) o) (if_neg c_14)
              have n9 : tlN o (upd (tlS ((upd t 0 ((t 0) + 1)) 1) o y) o ((tlS ((upd t 0 ((t 0) + 1)) 1) o y) o + 1)) = 12 := (if_neg c_15).trans ((if_pos c_16).trans (if_neg c_17))
              have T9 : turnL ((upd t 0 ((t 0) + 1)) 1) o y q = (upd (tlD ((upd t 0 ((t 0) + 1)) 1) o y) (o + 6) (tlD ((upd t 0 ((t 0) + 1)) 1) o y (o + 6) + tlN o (tlD ((upd t 0 ((t 0) + 1)) 1) o y)), q + tlN o (tlD ((upd t 0 ((t 0) + 1)) 1) o y)) := if_neg c_11
              rw [D9, n9] at T9
              exact ih (o + 7) (upd (upd (upd y (o + 2) ((y (o + 2)) + (((upd t 0 ((t 0) + 1)) 1) + (y (o + 3))))) o (((upd y (o + 2) ((y (o + 2)) + (((upd t 0 ((t 0) + 1)) 1) + (y (o + 3))))) o) + 1)) (o + 6) (((upd (upd y (o + 2) ((y (o + 2)) + (((upd t 0 ((t 0) + 1)) 1) + (y (o + 3))))) o (((upd y (o + 2) ((y (o + 2)) + (((upd t 0 ((t 0) + 1)) 1) + (y (o + 3))))) o) + 1)) (o + 6)) + 12)) (q + 12) (r + ((upd (upd (upd y (o + 2) ((y (o + 2)) + (((upd t 0 ((t 0) + 1)) 1) + (y (o + 3))))) o (((upd y (o + 2) ((y (o + 2)) + (((upd t 0 ((t 0) + 1)) 1) + (y (o + 3))))) o) + 1)) (o + 6) (((upd (upd y (o + 2) ((y (o + 2)) + (((upd t 0 ((t 0) + 1)) 1) + (y (o + 3))))) o (((upd y (o + 2) ((y (o + 2)) + (((upd t 0 ((t 0) + 1)) 1) + (y (o + 3))))) o) + 1)) (o + 6)) + 12)) (o + 3))) (by omega) (by rw [← ht]; show _ = turnsL ((upd t 0 ((t 0) + 1)) 1) n (o + 7) (turnL ((upd t 0 ((t 0) + 1)) 1) o y q).1 (turnL ((upd t 0 ((t 0) + 1)) 1) o y q).2 (r + (turnL ((upd t 0 ((t 0) + 1)) 1) o y q).1 (o + 3)); rw [T9]; rfl) ls _ _ hP hD hS (lv_sub hl [0, 2, 1, 4, 5, 6] rfl)
          · refine lv_iconst (v := 0) hx hb dL_minute_104 (by decide) ?_
            refine lv_goto (tgt := 129) hx hb dL_minute_105 (by decide) ?_
            refine lv_istore (lv' := [(6, .int 0), (5, .int (nI o)), (3, .int q), (4, .int r), (0, .ref bf), (1, .ref bk), (2, .ref bt)]) hx hb dL_minute_129 hl (by decide) rfl (fun ls hl => ?_)
            refine lv_aload_n hx hb dL_minute_131 rfl (lv_at hl 4 rfl) ?_
            refine lv_iload hx hb dL_minute_132 (lv_at hl 1 rfl) ?_
            refine lv_bipush (v := 6) hx hb dL_minute_134 (by decide) ?_
            refine lv_iadd hx hb dL_minute_136 ?_
            refine lv_dup2_11 hx hb dL_minute_137 rfl rfl ?_
            refine x_iald (v := ((upd (upd y (o + 2) ((y (o + 2)) + (((upd t 0 ((t 0) + 1)) 1) + (y (o + 3))))) o (((upd y (o + 2) ((y (o + 2)) + (((upd t 0 ((t 0) + 1)) 1) + (y (o + 3))))) o) + 1)) (o + 6))) X 0 (o + 6) hP rfl (z_add rfl rfl) (by omega) (Nat.le_of_ble_eq_true rfl) rfl dL_minute_138 ?_
            refine lv_iload hx hb dL_minute_139 (lv_at hl 0 rfl) ?_
            refine lv_iadd hx hb dL_minute_141 ?_
            refine x_iast (ws2 := [(bf, .inl (g.2 0, 28, .inl (upd (upd (upd y (o + 2) ((y (o + 2)) + (((upd t 0 ((t 0) + 1)) 1) + (y (o + 3))))) o (((upd y (o + 2) ((y (o + 2)) + (((upd t 0 ((t 0) + 1)) 1) + (y (o + 3))))) o) + 1)) (o + 6) (((upd (upd y (o + 2) ((y (o + 2)) + (((upd t 0 ((t 0) + 1)) 1) + (y (o + 3))))) o (((upd y (o + 2) ((y (o + 2)) + (((upd t 0 ((t 0) + 1)) 1) + (y (o + 3))))) o) + 1)) (o + 6)) + 0)))), (bk, .inl (g.2 0, 12, .inl k)), (bt, .inl (g.2 0, 8, .inl (upd t 0 ((t 0) + 1))))]) X 0 (o + 6) hP hD hS rfl (z_add rfl rfl) (by omega) (Nat.le_of_ble_eq_true rfl) rfl dL_minute_142 (fun H locs hP hD hS => ?_)
            refine lv_iload_n hx hb dL_minute_143 rfl (lv_at hl 2 rfl) ?_
            refine lv_iload hx hb dL_minute_144 (lv_at hl 0 rfl) ?_
            refine lv_iadd hx hb dL_minute_146 ?_
            refine lv_istore_n (lv' := [(3, .int (q + 0)), (6, .int 0), (5, .int (nI o)), (4, .int r), (0, .ref bf), (1, .ref bk), (2, .ref bt)]) hx hb dL_minute_147 rfl hl (by decide) rfl (fun ls hl => ?_)
            refine lv_goto (tgt := 215) hx hb dL_minute_148 (by decide) ?_
            refine lv_iload hx hb dL_minute_215 (lv_at hl 3 rfl) ?_
            refine lv_aload_n hx hb dL_minute_217 rfl (lv_at hl 4 rfl) ?_
            refine lv_iload hx hb dL_minute_218 (lv_at hl 2 rfl) ?_
            refine lv_iconst (v := 3) hx hb dL_minute_220 (by decide) ?_
            refine lv_iadd hx hb dL_minute_221 ?_
            refine x_iald (v := ((upd (upd (upd y (o + 2) ((y (o + 2)) + (((upd t 0 ((t 0) + 1)) 1) + (y (o + 3))))) o (((upd y (o + 2) ((y (o + 2)) + (((upd t 0 ((t 0) + 1)) 1) + (y (o + 3))))) o) + 1)) (o + 6) (((upd (upd y (o + 2) ((y (o + 2)) + (((upd t 0 ((t 0) + 1)) 1) + (y (o + 3))))) o (((upd y (o + 2) ((y (o + 2)) + (((upd t 0 ((t 0) + 1)) 1) + (y (o + 3))))) o) + 1)) (o + 6)) + 0)) (o + 3))) X 0 (o + 3) hP rfl (z_add rfl rfl) (by omega) (Nat.le_of_ble_eq_true rfl) rfl dL_minute_222 ?_
            refine lv_iadd hx hb dL_minute_223 ?_
            refine lv_istore (lv' := [(4, .int (r + ((upd (upd (upd y (o + 2) ((y (o + 2)) + (((upd t 0 ((t 0) + 1)) 1) + (y (o + 3))))) o (((upd y (o + 2) ((y (o + 2)) + (((upd t 0 ((t 0) + 1)) 1) + (y (o + 3))))) o) + 1)) (o + 6) (((upd (upd y (o + 2) ((y (o + 2)) + (((upd t 0 ((t 0) + 1)) 1) + (y (o + 3))))) o (((upd y (o + 2) ((y (o + 2)) + (((upd t 0 ((t 0) + 1)) 1) + (y (o + 3))))) o) + 1)) (o + 6)) + 0)) (o + 3)))), (3, .int (q + 0)), (6, .int 0), (5, .int (nI o)), (0, .ref bf), (1, .ref bk), (2, .ref bt)]) hx hb dL_minute_224 hl (by decide) rfl (fun ls hl => ?_)
            refine lv_iinc (v := (nI (o + 7))) (lv' := [(5, .int (nI (o + 7))), (4, .int (r + ((upd (upd (upd y (o + 2) ((y (o + 2)) + (((upd t 0 ((t 0) + 1)) 1) + (y (o + 3))))) o (((upd y (o + 2) ((y (o + 2)) + (((upd t 0 ((t 0) + 1)) 1) + (y (o + 3))))) o) + 1)) (o + 6) (((upd (upd y (o + 2) ((y (o + 2)) + (((upd t 0 ((t 0) + 1)) 1) + (y (o + 3))))) o (((upd y (o + 2) ((y (o + 2)) + (((upd t 0 ((t 0) + 1)) 1) + (y (o + 3))))) o) + 1)) (o + 6)) + 0)) (o + 3)))), (3, .int (q + 0)), (6, .int 0), (0, .ref bf), (1, .ref bk), (2, .ref bt)]) hx hb dL_minute_226 hl (k := 3) rfl (nI_add _ 7) (by decide) rfl (fun ls hl => ?_)
            refine lv_goto (tgt := 17) hx hb dL_minute_229 (by decide) ?_
            have D9 : tlD ((upd t 0 ((t 0) + 1)) 1) o y = upd (tlS ((upd t 0 ((t 0) + 1)) 1) o y) o ((tlS ((upd t 0 ((t 0) + 1)) 1) o y) o + 1) := congrArg (upd (tlS ((upd t 0 ((t 0) + 1)) 1) o y) o) (if_neg c_14)
            have n9 : tlN o (upd (tlS ((upd t 0 ((t 0) + 1)) 1) o y) o ((tlS ((upd t 0 ((t 0) + 1)) 1) o y) o + 1)) = 0 := (if_neg c_15).trans (if_neg c_16)
            have T9 : turnL ((upd t 0 ((t 0) + 1)) 1) o y q = (upd (tlD ((upd t 0 ((t 0) + 1)) 1) o y) (o + 6) (tlD ((upd t 0 ((t 0) + 1)) 1) o y (o + 6) + tlN o (tlD ((upd t 0 ((t 0) + 1)) 1) o y)), q + tlN o (tlD ((upd t 0 ((t 0) + 1)) 1) o y)) := if_neg c_11
            rw [D9, n9] at T9
            exact ih (o + 7) (upd (upd (upd y (o + 2) ((y (o + 2)) + (((upd t 0 ((t 0) + 1)) 1) + (y (o + 3))))) o (((upd y (o + 2) ((y (o + 2)) + (((upd t 0 ((t 0) + 1)) 1) + (y (o + 3))))) o) + 1)) (o + 6) (((upd (upd y (o + 2) ((y (o + 2)) + (((upd t 0 ((t 0) + 1)) 1) + (y (o + 3))))) o (((upd y (o + 2) ((y (o + 2)) + (((upd t 0 ((t 0) + 1)) 1) + (y (o + 3))))) o) + 1)) (o + 6)) + 0)) (q + 0) (r + ((upd (upd (upd y (o + 2) ((y (o + 2)) + (((upd t 0 ((t 0) + 1)) 1) + (y (o + 3))))) o (((upd y (o + 2) ((y (o + 2)) + (((upd t 0 ((t 0) + 1)) 1) + (y (o + 3))))) o) + 1)) (o + 6) (((upd (upd y (o + 2) ((y (o + 2)) + (((upd t 0 ((t 0) + 1)) 1) + (y (o + 3))))) o (((upd y (o + 2) ((y (o + 2)) + (((upd t 0 ((t 0) + 1)) 1) + (y (o + 3))))) o) + 1)) (o + 6)) + 0)) (o + 3))) (by omega) (by rw [← ht]; show _ = turnsL ((upd t 0 ((t 0) + 1)) 1) n (o + 7) (turnL ((upd t 0 ((t 0) + 1)) 1) o y q).1 (turnL ((upd t 0 ((t 0) + 1)) 1) o y q).2 (r + (turnL ((upd t 0 ((t 0) + 1)) 1) o y q).1 (o + 3)); rw [T9]; rfl) ls _ _ hP hD hS (lv_sub hl [0, 2, 1, 4, 5, 6] rfl)
      · refine lv_iconst (v := 0) hx hb dL_minute_74 (by decide) ?_
        refine lv_goto (tgt := 84) hx hb dL_minute_75 (by decide) ?_
        refine x_iast (ws2 := [(bf, .inl (g.2 0, 28, .inl (upd (upd y (o + 2) ((y (o + 2)) + (((upd t 0 ((t 0) + 1)) 1) + (y (o + 3))))) o 0))), (bk, .inl (g.2 0, 12, .inl k)), (bt, .inl (g.2 0, 8, .inl (upd t 0 ((t 0) + 1))))]) X 0 o hP hD hS rfl rfl (by omega) (Nat.le_of_ble_eq_true rfl) rfl dL_minute_84 (fun H locs hP hD hS => ?_)
        refine lv_aload_n hx hb dL_minute_85 rfl (lv_at hl 3 rfl) ?_
        refine lv_iload hx hb dL_minute_86 (lv_at hl 0 rfl) ?_
        refine lv_iconst (v := 5) hx hb dL_minute_88 (by decide) ?_
        refine lv_iadd hx hb dL_minute_89 ?_
        refine x_iald (v := ((upd (upd y (o + 2) ((y (o + 2)) + (((upd t 0 ((t 0) + 1)) 1) + (y (o + 3))))) o 0) (o + 5))) X 0 (o + 5) hP rfl (z_add rfl rfl) (by omega) (Nat.le_of_ble_eq_true rfl) rfl dL_minute_90 ?_
        refine lv_if_eq (tgt := 104) hx hb dL_minute_91 (by decide) (fun (c_18 : ((upd (upd y (o + 2) ((y (o + 2)) + (((upd t 0 ((t 0) + 1)) 1) + (y (o + 3))))) o 0) (o + 5)) = 0) => ?_) (fun (c_18 : ¬ ((upd (upd y (o + 2) ((y (o + 2)) + (((upd t 0 ((t 0) + 1)) 1) + (y (o + 3))))) o 0) (o + 5)) = 0) => ?_)
        · refine lv_iconst (v := 0) hx hb dL_minute_104 (by decide) ?_
          refine lv_goto (tgt := 129) hx hb dL_minute_105 (by decide) ?_
          refine lv_istore (lv' := [(6, .int 0), (5, .int (nI o)), (3, .int q), (4, .int r), (0, .ref bf), (1, .ref bk), (2, .ref bt)]) hx hb dL_minute_129 hl (by decide) rfl (fun ls hl => ?_)
          refine lv_aload_n hx hb dL_minute_131 rfl (lv_at hl 4 rfl) ?_
          refine lv_iload hx hb dL_minute_132 (lv_at hl 1 rfl) ?_
          refine lv_bipush (v := 6) hx hb dL_minute_134 (by decide) ?_
          refine lv_iadd hx hb dL_minute_136 ?_
          refine lv_dup2_11 hx hb dL_minute_137 rfl rfl ?_
          refine x_iald (v := ((upd (upd y (o + 2) ((y (o + 2)) + (((upd t 0 ((t 0) + 1)) 1) + (y (o + 3))))) o 0) (o + 6))) X 0 (o + 6) hP rfl (z_add rfl rfl) (by omega) (Nat.le_of_ble_eq_true rfl) rfl dL_minute_138 ?_
          refine lv_iload hx hb dL_minute_139 (lv_at hl 0 rfl) ?_
          refine lv_iadd hx hb dL_minute_141 ?_
          refine x_iast (ws2 := [(bf, .inl (g.2 0, 28, .inl (upd (upd (upd y (o + 2) ((y (o + 2)) + (((upd t 0 ((t 0) + 1)) 1) + (y (o + 3))))) o 0) (o + 6) (((upd (upd y (o + 2) ((y (o + 2)) + (((upd t 0 ((t 0) + 1)) 1) + (y (o + 3))))) o 0) (o + 6)) + 0)))), (bk, .inl (g.2 0, 12, .inl k)), (bt, .inl (g.2 0, 8, .inl (upd t 0 ((t 0) + 1))))]) X 0 (o + 6) hP hD hS rfl (z_add rfl rfl) (by omega) (Nat.le_of_ble_eq_true rfl) rfl dL_minute_142 (fun H locs hP hD hS => ?_)
          refine lv_iload_n hx hb dL_minute_143 rfl (lv_at hl 2 rfl) ?_
          refine lv_iload hx hb dL_minute_144 (lv_at hl 0 rfl) ?_
          refine lv_iadd hx hb dL_minute_146 ?_
          refine lv_istore_n (lv' := [(3, .int (q + 0)), (6, .int 0), (5, .int (nI o)), (4, .int r), (0, .ref bf), (1, .ref bk), (2, .ref bt)]) hx hb dL_minute_147 rfl hl (by decide) rfl (fun ls hl => ?_)
          refine lv_goto (tgt := 215) hx hb dL_minute_148 (by decide) ?_
          refine lv_iload hx hb dL_minute_215 (lv_at hl 3 rfl) ?_
          refine lv_aload_n hx hb dL_minute_217 rfl (lv_at hl 4 rfl) ?_
          refine lv_iload hx hb dL_minute_218 (lv_at hl 2 rfl) ?_
          refine lv_iconst (v := 3) hx hb dL_minute_220 (by decide) ?_
          refine lv_iadd hx hb dL_minute_221 ?_
          refine x_iald (v := ((upd (upd (upd y (o + 2) ((y (o + 2)) + (((upd t 0 ((t 0) + 1)) 1) + (y (o + 3))))) o 0) (o + 6) (((upd (upd y (o + 2) ((y (o + 2)) + (((upd t 0 ((t 0) + 1)) 1) + (y (o + 3))))) o 0) (o + 6)) + 0)) (o + 3))) X 0 (o + 3) hP rfl (z_add rfl rfl) (by omega) (Nat.le_of_ble_eq_true rfl) rfl dL_minute_222 ?_
          refine lv_iadd hx hb dL_minute_223 ?_
          refine lv_istore (lv' := [(4, .int (r + ((upd (upd (upd y (o + 2) ((y (o + 2)) + (((upd t 0 ((t 0) + 1)) 1) + (y (o + 3))))) o 0) (o + 6) (((upd (upd y (o + 2) ((y (o + 2)) + (((upd t 0 ((t 0) + 1)) 1) + (y (o + 3))))) o 0) (o + 6)) + 0)) (o + 3)))), (3, .int (q + 0)), (6, .int 0), (5, .int (nI o)), (0, .ref bf), (1, .ref bk), (2, .ref bt)]) hx hb dL_minute_224 hl (by decide) rfl (fun ls hl => ?_)
          refine lv_iinc (v := (nI (o + 7))) (lv' := [(5, .int (nI (o + 7))), (4, .int (r + ((upd (upd (upd y (o + 2) ((y (o + 2)) + (((upd t 0 ((t 0) + 1)) 1) + (y (o + 3))))) o 0) (o + 6) (((upd (upd y (o + 2) ((y (o + 2)) + (((upd t 0 ((t 0) + 1)) 1) + (y (o + 3))))) o 0) (o + 6)) + 0)) (o + 3)))), (3, .int (q + 0)), (6, .int 0), (0, .ref bf), (1, .ref bk), (2, .ref bt)]) hx hb dL_minute_226 hl (k := 3) rfl (nI_add _ 7) (by decide) rfl (fun ls hl => ?_)
          refine lv_goto (tgt := 17) hx hb dL_minute_229 (by decide) ?_
          have D9 : tlD ((upd t 0 ((t 0) + 1)) 1) o y = upd (tlS ((upd t 0 ((t 0) + 1)) 1) o y) o 0 := congrArg (upd (tlS ((upd t 0 ((t 0) + 1)) 1) o y) o) (if_pos c_14)
          have n9 : tlN o (upd (tlS ((upd t 0 ((t 0) + 1)) 1) o y) o 0) = 0 := if_pos c_18
          have T9 : turnL ((upd t 0 ((t 0) + 1)) 1) o y q = (upd (tlD ((upd t 0 ((t 0) + 1)) 1) o y) (o + 6) (tlD ((upd t 0 ((t 0) + 1)) 1) o y (o + 6) + tlN o (tlD ((upd t 0 ((t 0) + 1)) 1) o y)), q + tlN o (tlD ((upd t 0 ((t 0) + 1)) 1) o y)) := if_neg c_11
          rw [D9, n9] at T9
          exact ih (o + 7) (upd (upd (upd y (o + 2) ((y (o + 2)) + (((upd t 0 ((t 0) + 1)) 1) + (y (o + 3))))) o 0) (o + 6) (((upd (upd y (o + 2) ((y (o + 2)) + (((upd t 0 ((t 0) + 1)) 1) + (y (o + 3))))) o 0) (o + 6)) + 0)) (q + 0) (r + ((upd (upd (upd y (o + 2) ((y (o + 2)) + (((upd t 0 ((t 0) + 1)) 1) + (y (o + 3))))) o 0) (o + 6) (((upd (upd y (o + 2) ((y (o + 2)) + (((upd t 0 ((t 0) + 1)) 1) + (y (o + 3))))) o 0) (o + 6)) + 0)) (o + 3))) (by omega) (by rw [← ht]; show _ = turnsL ((upd t 0 ((t 0) + 1)) 1) n (o + 7) (turnL ((upd t 0 ((t 0) + 1)) 1) o y q).1 (turnL ((upd t 0 ((t 0) + 1)) 1) o y q).2 (r + (turnL ((upd t 0 ((t 0) + 1)) 1) o y q).1 (o + 3)); rw [T9]; rfl) ls _ _ hP hD hS (lv_sub hl [0, 2, 1, 4, 5, 6] rfl)
        · refine lv_aload_n hx hb dL_minute_94 rfl (lv_at hl 3 rfl) ?_
          refine lv_iload hx hb dL_minute_95 (lv_at hl 0 rfl) ?_
          refine x_iald (v := ((upd (upd y (o + 2) ((y (o + 2)) + (((upd t 0 ((t 0) + 1)) 1) + (y (o + 3))))) o 0) o)) X 0 o hP rfl rfl (by omega) (Nat.le_of_ble_eq_true rfl) rfl dL_minute_97 ?_
          refine lv_bipush (v := 60) hx hb dL_minute_98 (by decide) ?_
          refine lv_irem hx hb dL_minute_100 (by decide) ?_
          refine lv_if_le (tgt := 108) hx hb dL_minute_101 (by decide) (fun (c_19 : (jrem ((upd (upd y (o + 2) ((y (o + 2)) + (((upd t 0 ((t 0) + 1)) 1) + (y (o + 3))))) o 0) o) 60) ≤ 0) => ?_) (fun (c_19 : ¬ (jrem ((upd (upd y (o + 2) ((y (o + 2)) + (((upd t 0 ((t 0) + 1)) 1) + (y (o + 3))))) o 0) o) 60) ≤ 0) => ?_)
          · refine lv_aload_n hx hb dL_minute_108 rfl (lv_at hl 3 rfl) ?_
            refine lv_iload hx hb dL_minute_109 (lv_at hl 0 rfl) ?_
            refine x_iald (v := ((upd (upd y (o + 2) ((y (o + 2)) + (((upd t 0 ((t 0) + 1)) 1) + (y (o + 3))))) o 0) o)) X 0 o hP rfl rfl (by omega) (Nat.le_of_ble_eq_true rfl) rfl dL_minute_111 ?_
            refine lv_bipush (v := 60) hx hb dL_minute_112 (by decide) ?_
            refine lv_icmp_ge (tgt := 122) hx hb dL_minute_114 (by decide) (fun (c_20 : 60 ≤ ((upd (upd y (o + 2) ((y (o + 2)) + (((upd t 0 ((t 0) + 1)) 1) + (y (o + 3))))) o 0) o)) => ?_) (fun (c_20 : ¬ 60 ≤ ((upd (upd y (o + 2) ((y (o + 2)) + (((upd t 0 ((t 0) + 1)) 1) + (y (o + 3))))) o 0) o)) => ?_)
            · refine lv_aload_n hx hb dL_minute_122 rfl (lv_at hl 3 rfl) ?_
              refine lv_iload hx hb dL_minute_123 (lv_at hl 0 rfl) ?_
              refine x_iald (v := ((upd (upd y (o + 2) ((y (o + 2)) + (((upd t 0 ((t 0) + 1)) 1) + (y (o + 3))))) o 0) o)) X 0 o hP rfl rfl (by omega) (Nat.le_of_ble_eq_true rfl) rfl dL_minute_125 ?_
              refine lv_bipush (v := 60) hx hb dL_minute_126 (by decide) ?_
              refine lv_idiv hx hb dL_minute_128 (by decide) ?_
              refine lv_istore (lv' := [(6, .int (((upd (upd y (o + 2) ((y (o + 2)) + (((upd t 0 ((t 0) + 1)) 1) + (y (o + 3))))) o 0) o) / 60)), (5, .int (nI o)), (3, .int q), (4, .int r), (0, .ref bf), (1, .ref bk), (2, .ref bt)]) hx hb dL_minute_129 hl (by decide) rfl (fun ls hl => ?_)
              refine lv_aload_n hx hb dL_minute_131 rfl (lv_at hl 4 rfl) ?_
              refine lv_iload hx hb dL_minute_132 (lv_at hl 1 rfl) ?_
              refine lv_bipush (v := 6) hx hb dL_minute_134 (by decide) ?_
              refine lv_iadd hx hb dL_minute_136 ?_
              refine lv_dup2_11 hx hb dL_minute_137 rfl rfl ?_
              refine x_iald (v := ((upd (upd y (o + 2) ((y (o + 2)) + (((upd t 0 ((t 0) + 1)) 1) + (y (o + 3))))) o 0) (o + 6))) X 0 (o + 6) hP rfl (z_add rfl rfl) (by omega) (Nat.le_of_ble_eq_true rfl) rfl dL_minute_138 ?_
              refine lv_iload hx hb dL_minute_139 (lv_at hl 0 rfl) ?_
              refine lv_iadd hx hb dL_minute_141 ?_
              refine x_iast (ws2 := [(bf, .inl (g.2 0, 28, .inl (upd (upd (upd y (o + 2) ((y (o + 2)) + (((upd t 0 ((t 0) + 1)) 1) + (y (o + 3))))) o 0) (o + 6) (((upd (upd y (o + 2) ((y (o + 2)) + (((upd t 0 ((t 0) + 1)) 1) + (y (o + 3))))) o 0) (o + 6)) + (((upd (upd y (o + 2) ((y (o + 2)) + (((upd t 0 ((t 0) + 1)) 1) + (y (o + 3))))) o 0) o) / 60))))), (bk, .inl (g.2 0, 12, .inl k)), (bt, .inl (g.2 0, 8, .inl (upd t 0 ((t 0) + 1))))]) X 0 (o + 6) hP hD hS rfl (z_add rfl rfl) (by omega) (Nat.le_of_ble_eq_true rfl) rfl dL_minute_142 (fun H locs hP hD hS => ?_)
              refine lv_iload_n hx hb dL_minute_143 rfl (lv_at hl 2 rfl) ?_
              refine lv_iload hx hb dL_minute_144 (lv_at hl 0 rfl) ?_
              refine lv_iadd hx hb dL_minute_146 ?_
              refine lv_istore_n (lv' := [(3, .int (q + (((upd (upd y (o + 2) ((y (o + 2)) + (((upd t 0 ((t 0) + 1)) 1) + (y (o + 3))))) o 0) o) / 60))), (6, .int (((upd (upd y (o + 2) ((y (o + 2)) + (((upd t 0 ((t 0) + 1)) 1) + (y (o + 3))))) o 0) o) / 60)), (5, .int (nI o)), (4, .int r), (0, .ref bf), (1, .ref bk), (2, .ref bt)]) hx hb dL_minute_147 rfl hl (by decide) rfl (fun ls hl => ?_)
              refine lv_goto (tgt := 215) hx hb dL_minute_148 (by decide) ?_
              refine lv_iload hx hb dL_minute_215 (lv_at hl 3 rfl) ?_
              refine lv_aload_n hx hb dL_minute_217 rfl (lv_at hl 4 rfl) ?_
              refine lv_iload hx hb dL_minute_218 (lv_at hl 2 rfl) ?_
              refine lv_iconst (v := 3) hx hb dL_minute_220 (by decide) ?_
              refine lv_iadd hx hb dL_minute_221 ?_
              refine x_iald (v := ((upd (upd (upd y (o + 2) ((y (o + 2)) + (((upd t 0 ((t 0) + 1)) 1) + (y (o + 3))))) o 0) (o + 6) (((upd (upd y (o + 2) ((y (o + 2)) + (((upd t 0 ((t 0) + 1)) 1) + (y (o + 3))))) o 0) (o + 6)) + (((upd (upd y (o + 2) ((y (o + 2)) + (((upd t 0 ((t 0) + 1)) 1) + (y (o + 3))))) o 0) o) / 60))) (o + 3))) X 0 (o + 3) hP rfl (z_add rfl rfl) (by omega) (Nat.le_of_ble_eq_true rfl) rfl dL_minute_222 ?_
              refine lv_iadd hx hb dL_minute_223 ?_
              refine lv_istore (lv' := [(4, .int (r + ((upd (upd (upd y (o + 2) ((y (o + 2)) + (((upd t 0 ((t 0) + 1)) 1) + (y (o + 3))))) o 0) (o + 6) (((upd (upd y (o + 2) ((y (o + 2)) + (((upd t 0 ((t 0) + 1)) 1) + (y (o + 3))))) o 0) (o + 6)) + (((upd (upd y (o + 2) ((y (o + 2)) + (((upd t 0 ((t 0) + 1)) 1) + (y (o + 3))))) o 0) o) / 60))) (o + 3)))), (3, .int (q + (((upd (upd y (o + 2) ((y (o + 2)) + (((upd t 0 ((t 0) + 1)) 1) + (y (o + 3))))) o 0) o) / 60))), (6, .int (((upd (upd y (o + 2) ((y (o + 2)) + (((upd t 0 ((t 0) + 1)) 1) + (y (o + 3))))) o 0) o) / 60)), (5, .int (nI o)), (0, .ref bf), (1, .ref bk), (2, .ref bt)]) hx hb dL_minute_224 hl (by decide) rfl (fun ls hl => ?_)
              refine lv_iinc (v := (nI (o + 7))) (lv' := [(5, .int (nI (o + 7))), (4, .int (r + ((upd (upd (upd y (o + 2) ((y (o + 2)) + (((upd t 0 ((t 0) + 1)) 1) + (y (o + 3))))) o 0) (o + 6) (((upd (upd y (o + 2) ((y (o + 2)) + (((upd t 0 ((t 0) + 1)) 1) + (y (o + 3))))) o 0) (o + 6)) + (((upd (upd y (o + 2) ((y (o + 2)) + (((upd t 0 ((t 0) + 1)) 1) + (y (o + 3))))) o 0) o) / 60))) (o + 3)))), (3, .int (q + (((upd (upd y (o + 2) ((y (o + 2)) + (((upd t 0 ((t 0) + 1)) 1) + (y (o + 3))))) o 0) o) / 60))), (6, .int (((upd (upd y (o + 2) ((y (o + 2)) + (((upd t 0 ((t 0) + 1)) 1) + (y (o + 3))))) o 0) o) / 60)), (0, .ref bf), (1, .ref bk), (2, .ref bt)]) hx hb dL_minute_226 hl (k := 3) rfl (nI_add _ 7) (by decide) rfl (fun ls hl => ?_)
              refine lv_goto (tgt := 17) hx hb dL_minute_229 (by decide) ?_
              have D9 : tlD ((upd t 0 ((t 0) + 1)) 1) o y = upd (tlS ((upd t 0 ((t 0) + 1)) 1) o y) o 0 := congrArg (upd (tlS ((upd t 0 ((t 0) + 1)) 1) o y) o) (if_pos c_14)
              have n9 : tlN o (upd (tlS ((upd t 0 ((t 0) + 1)) 1) o y) o 0) = ((upd (tlS ((upd t 0 ((t 0) + 1)) 1) o y) o 0) o / 60) := (if_neg c_18).trans ((if_pos c_19).trans (if_pos c_20))
              have T9 : turnL ((upd t 0 ((t 0) + 1)) 1) o y q = (upd (tlD ((upd t 0 ((t 0) + 1)) 1) o y) (o + 6) (tlD ((upd t 0 ((t 0) + 1)) 1) o y (o + 6) + tlN o (tlD ((upd t 0 ((t 0) + 1)) 1) o y)), q + tlN o (tlD ((upd t 0 ((t 0) + 1)) 1) o y)) := if_neg c_11
              rw [D9, n9] at T9
              exact ih (o + 7) (upd (upd (upd y (o + 2) ((y (o + 2)) + (((upd t 0 ((t 0) + 1)) 1) + (y (o + 3))))) o 0) (o + 6) (((upd (upd y (o + 2) ((y (o + 2)) + (((upd t 0 ((t 0) + 1)) 1) + (y (o + 3))))) o 0) (o + 6)) + (((upd (upd y (o + 2) ((y (o + 2)) + (((upd t 0 ((t 0) + 1)) 1) + (y (o + 3))))) o 0) o) / 60))) (q + (((upd (upd y (o + 2) ((y (o + 2)) + (((upd t 0 ((t 0) + 1)) 1) + (y (o + 3))))) o 0) o) / 60)) (r + ((upd (upd (upd y (o + 2) ((y (o + 2)) + (((upd t 0 ((t 0) + 1)) 1) + (y (o + 3))))) o 0) (o + 6) (((upd (upd y (o + 2) ((y (o + 2)) + (((upd t 0 ((t 0) + 1)) 1) + (y (o + 3))))) o 0) (o + 6)) + (((upd (upd y (o + 2) ((y (o + 2)) + (((upd t 0 ((t 0) + 1)) 1) + (y (o + 3))))) o 0) o) / 60))) (o + 3))) (by omega) (by rw [← ht]; show _ = turnsL ((upd t 0 ((t 0) + 1)) 1) n (o + 7) (turnL ((upd t 0 ((t 0) + 1)) 1) o y q).1 (turnL ((upd t 0 ((t 0) + 1)) 1) o y q).2 (r + (turnL ((upd t 0 ((t 0) + 1)) 1) o y q).1 (o + 3)); rw [T9]; rfl) ls _ _ hP hD hS (lv_sub hl [0, 2, 1, 4, 5, 6] rfl)
            · refine lv_bipush (v := 12) hx hb dL_minute_117 (by decide) ?_
              refine lv_goto (tgt := 129) hx hb dL_minute_119 (by decide) ?_
              refine lv_istore (lv' := [(6, .int 12), (5, .int (nI o)), (3, .int q), (4, .int r), (0, .ref bf), (1, .ref bk), (2, .ref bt)]) hx hb dL_minute_129 hl (by decide) rfl (fun ls hl => ?_)
              refine lv_aload_n hx hb dL_minute_131 rfl (lv_at hl 4 rfl) ?_
              refine lv_iload hx hb dL_minute_132 (lv_at hl 1 rfl) ?_
              refine lv_bipush (v := 6) hx hb dL_minute_134 (by decide) ?_
              refine lv_iadd hx hb dL_minute_136 ?_
              refine lv_dup2_11 hx hb dL_minute_137 rfl rfl ?_
              refine x_iald (v := ((upd (upd y (o + 2) ((y (o + 2)) + (((upd t 0 ((t 0) + 1)) 1) + (y (o + 3))))) o 0) (o + 6))) X 0 (o + 6) hP rfl (z_add rfl rfl) (by omega) (Nat.le_of_ble_eq_true rfl) rfl dL_minute_138 ?_
              refine lv_iload hx hb dL_minute_139 (lv_at hl 0 rfl) ?_
              refine lv_iadd hx hb dL_minute_141 ?_
              refine x_iast (ws2 := [(bf, .inl (g.2 0, 28, .inl (upd (upd (upd y (o + 2) ((y (o + 2)) + (((upd t 0 ((t 0) + 1)) 1) + (y (o + 3))))) o 0) (o + 6) (((upd (upd y (o + 2) ((y (o + 2)) + (((upd t 0 ((t 0) + 1)) 1) + (y (o + 3))))) o 0) (o + 6)) + 12)))), (bk, .inl (g.2 0, 12, .inl k)), (bt, .inl (g.2 0, 8, .inl (upd t 0 ((t 0) + 1))))]) X 0 (o + 6) hP hD hS rfl (z_add rfl rfl) (by omega) (Nat.le_of_ble_eq_true rfl) rfl dL_minute_142 (fun H locs hP hD hS => ?_)
              refine lv_iload_n hx hb dL_minute_143 rfl (lv_at hl 2 rfl) ?_
              refine lv_iload hx hb dL_minute_144 (lv_at hl 0 rfl) ?_
              refine lv_iadd hx hb dL_minute_146 ?_
              refine lv_istore_n (lv' := [(3, .int (q + 12)), (6, .int 12), (5, .int (nI o)), (4, .int r), (0, .ref bf), (1, .ref bk), (2, .ref bt)]) hx hb dL_minute_147 rfl hl (by decide) rfl (fun ls hl => ?_)
              refine lv_goto (tgt := 215) hx hb dL_minute_148 (by decide) ?_
              refine lv_iload hx hb dL_minute_215 (lv_at hl 3 rfl) ?_
              refine lv_aload_n hx hb dL_minute_217 rfl (lv_at hl 4 rfl) ?_
              refine lv_iload hx hb dL_minute_218 (lv_at hl 2 rfl) ?_
              refine lv_iconst (v := 3) hx hb dL_minute_220 (by decide) ?_
              refine lv_iadd hx hb dL_minute_221 ?_
              refine x_iald (v := ((upd (upd (upd y (o + 2) ((y (o + 2)) + (((upd t 0 ((t 0) + 1)) 1) + (y (o + 3))))) o 0) (o + 6) (((upd (upd y (o + 2) ((y (o + 2)) + (((upd t 0 ((t 0) + 1)) 1) + (y (o + 3))))) o 0) (o + 6)) + 12)) (o + 3))) X 0 (o + 3) hP rfl (z_add rfl rfl) (by omega) (Nat.le_of_ble_eq_true rfl) rfl dL_minute_222 ?_
              refine lv_iadd hx hb dL_minute_223 ?_
              refine lv_istore (lv' := [(4, .int (r + ((upd (upd (upd y (o + 2) ((y (o + 2)) + (((upd t 0 ((t 0) + 1)) 1) + (y (o + 3))))) o 0) (o + 6) (((upd (upd y (o + 2) ((y (o + 2)) + (((upd t 0 ((t 0) + 1)) 1) + (y (o + 3))))) o 0) (o + 6)) + 12)) (o + 3)))), (3, .int (q + 12)), (6, .int 12), (5, .int (nI o)), (0, .ref bf), (1, .ref bk), (2, .ref bt)]) hx hb dL_minute_224 hl (by decide) rfl (fun ls hl => ?_)
              refine lv_iinc (v := (nI (o + 7))) (lv' := [(5, .int (nI (o + 7))), (4, .int (r + ((upd (upd (upd y (o + 2) ((y (o + 2)) + (((upd t 0 ((t 0) + 1)) 1) + (y (o + 3))))) o 0) (o + 6) (((upd (upd y (o + 2) ((y (o + 2)) + (((upd t 0 ((t 0) + 1)) 1) + (y (o + 3))))) o 0) (o + 6)) + 12)) (o + 3)))), (3, .int (q + 12)), (6, .int 12), (0, .ref bf), (1, .ref bk), (2, .ref bt)]) hx hb dL_minute_226 hl (k := 3) rfl (nI_add _ 7) (by decide) rfl (fun ls hl => ?_)
              refine lv_goto (tgt := 17) hx hb dL_minute_229 (by decide) ?_
              have D9 : tlD ((upd t 0 ((t 0) + 1)) 1) o y = upd (tlS ((upd t 0 ((t 0) + 1)) 1) o y) o 0 := congrArg (upd (tlS ((upd t 0 ((t 0) + 1)) 1) o y) o) (if_pos c_14)
              have n9 : tlN o (upd (tlS ((upd t 0 ((t 0) + 1)) 1) o y) o 0) = 12 := (if_neg c_18).trans ((if_pos c_19).trans (if_neg c_20))
              have T9 : turnL ((upd t 0 ((t 0) + 1)) 1) o y q = (upd (tlD ((upd t 0 ((t 0) + 1)) 1) o y) (o + 6) (tlD ((upd t 0 ((t 0) + 1)) 1) o y (o + 6) + tlN o (tlD ((upd t 0 ((t 0) + 1)) 1) o y)), q + tlN o (tlD ((upd t 0 ((t 0) + 1)) 1) o y)) := if_neg c_11
              rw [D9, n9] at T9
              exact ih (o + 7) (upd (upd (upd y (o + 2) ((y (o + 2)) + (((upd t 0 ((t 0) + 1)) 1) + (y (o + 3))))) o 0) (o + 6) (((upd (upd y (o + 2) ((y (o + 2)) + (((upd t 0 ((t 0) + 1)) 1) + (y (o + 3))))) o 0) (o + 6)) + 12)) (q + 12) (r + ((upd (upd (upd y (o + 2) ((y (o + 2)) + (((upd t 0 ((t 0) + 1)) 1) + (y (o + 3))))) o 0) (o + 6) (((upd (upd y (o + 2) ((y (o + 2)) + (((upd t 0 ((t 0) + 1)) 1) + (y (o + 3))))) o 0) (o + 6)) + 12)) (o + 3))) (by omega) (by rw [← ht]; show _ = turnsL ((upd t 0 ((t 0) + 1)) 1) n (o + 7) (turnL ((upd t 0 ((t 0) + 1)) 1) o y q).1 (turnL ((upd t 0 ((t 0) + 1)) 1) o y q).2 (r + (turnL ((upd t 0 ((t 0) + 1)) 1) o y q).1 (o + 3)); rw [T9]; rfl) ls _ _ hP hD hS (lv_sub hl [0, 2, 1, 4, 5, 6] rfl)
          · refine lv_iconst (v := 0) hx hb dL_minute_104 (by decide) ?_
            refine lv_goto (tgt := 129) hx hb dL_minute_105 (by decide) ?_
            refine lv_istore (lv' := [(6, .int 0), (5, .int (nI o)), (3, .int q), (4, .int r), (0, .ref bf), (1, .ref bk), (2, .ref bt)]) hx hb dL_minute_129 hl (by decide) rfl (fun ls hl => ?_)
            refine lv_aload_n hx hb dL_minute_131 rfl (lv_at hl 4 rfl) ?_
            refine lv_iload hx hb dL_minute_132 (lv_at hl 1 rfl) ?_
            refine lv_bipush (v := 6) hx hb dL_minute_134 (by decide) ?_
            refine lv_iadd hx hb dL_minute_136 ?_
            refine lv_dup2_11 hx hb dL_minute_137 rfl rfl ?_
            refine x_iald (v := ((upd (upd y (o + 2) ((y (o + 2)) + (((upd t 0 ((t 0) + 1)) 1) + (y (o + 3))))) o 0) (o + 6))) X 0 (o + 6) hP rfl (z_add rfl rfl) (by omega) (Nat.le_of_ble_eq_true rfl) rfl dL_minute_138 ?_
            refine lv_iload hx hb dL_minute_139 (lv_at hl 0 rfl) ?_
            refine lv_iadd hx hb dL_minute_141 ?_
            refine x_iast (ws2 := [(bf, .inl (g.2 0, 28, .inl (upd (upd (upd y (o + 2) ((y (o + 2)) + (((upd t 0 ((t 0) + 1)) 1) + (y (o + 3))))) o 0) (o + 6) (((upd (upd y (o + 2) ((y (o + 2)) + (((upd t 0 ((t 0) + 1)) 1) + (y (o + 3))))) o 0) (o + 6)) + 0)))), (bk, .inl (g.2 0, 12, .inl k)), (bt, .inl (g.2 0, 8, .inl (upd t 0 ((t 0) + 1))))]) X 0 (o + 6) hP hD hS rfl (z_add rfl rfl) (by omega) (Nat.le_of_ble_eq_true rfl) rfl dL_minute_142 (fun H locs hP hD hS => ?_)
            refine lv_iload_n hx hb dL_minute_143 rfl (lv_at hl 2 rfl) ?_
            refine lv_iload hx hb dL_minute_144 (lv_at hl 0 rfl) ?_
            refine lv_iadd hx hb dL_minute_146 ?_
            refine lv_istore_n (lv' := [(3, .int (q + 0)), (6, .int 0), (5, .int (nI o)), (4, .int r), (0, .ref bf), (1, .ref bk), (2, .ref bt)]) hx hb dL_minute_147 rfl hl (by decide) rfl (fun ls hl => ?_)
            refine lv_goto (tgt := 215) hx hb dL_minute_148 (by decide) ?_
            refine lv_iload hx hb dL_minute_215 (lv_at hl 3 rfl) ?_
            refine lv_aload_n hx hb dL_minute_217 rfl (lv_at hl 4 rfl) ?_
            refine lv_iload hx hb dL_minute_218 (lv_at hl 2 rfl) ?_
            refine lv_iconst (v := 3) hx hb dL_minute_220 (by decide) ?_
            refine lv_iadd hx hb dL_minute_221 ?_
            refine x_iald (v := ((upd (upd (upd y (o + 2) ((y (o + 2)) + (((upd t 0 ((t 0) + 1)) 1) + (y (o + 3))))) o 0) (o + 6) (((upd (upd y (o + 2) ((y (o + 2)) + (((upd t 0 ((t 0) + 1)) 1) + (y (o + 3))))) o 0) (o + 6)) + 0)) (o + 3))) X 0 (o + 3) hP rfl (z_add rfl rfl) (by omega) (Nat.le_of_ble_eq_true rfl) rfl dL_minute_222 ?_
            refine lv_iadd hx hb dL_minute_223 ?_
            refine lv_istore (lv' := [(4, .int (r + ((upd (upd (upd y (o + 2) ((y (o + 2)) + (((upd t 0 ((t 0) + 1)) 1) + (y (o + 3))))) o 0) (o + 6) (((upd (upd y (o + 2) ((y (o + 2)) + (((upd t 0 ((t 0) + 1)) 1) + (y (o + 3))))) o 0) (o + 6)) + 0)) (o + 3)))), (3, .int (q + 0)), (6, .int 0), (5, .int (nI o)), (0, .ref bf), (1, .ref bk), (2, .ref bt)]) hx hb dL_minute_224 hl (by decide) rfl (fun ls hl => ?_)
            refine lv_iinc (v := (nI (o + 7))) (lv' := [(5, .int (nI (o + 7))), (4, .int (r + ((upd (upd (upd y (o + 2) ((y (o + 2)) + (((upd t 0 ((t 0) + 1)) 1) + (y (o + 3))))) o 0) (o + 6) (((upd (upd y (o + 2) ((y (o + 2)) + (((upd t 0 ((t 0) + 1)) 1) + (y (o + 3))))) o 0) (o + 6)) + 0)) (o + 3)))), (3, .int (q + 0)), (6, .int 0), (0, .ref bf), (1, .ref bk), (2, .ref bt)]) hx hb dL_minute_226 hl (k := 3) rfl (nI_add _ 7) (by decide) rfl (fun ls hl => ?_)
            refine lv_goto (tgt := 17) hx hb dL_minute_229 (by decide) ?_
            have D9 : tlD ((upd t 0 ((t 0) + 1)) 1) o y = upd (tlS ((upd t 0 ((t 0) + 1)) 1) o y) o 0 := congrArg (upd (tlS ((upd t 0 ((t 0) + 1)) 1) o y) o) (if_pos c_14)
            have n9 : tlN o (upd (tlS ((upd t 0 ((t 0) + 1)) 1) o y) o 0) = 0 := (if_neg c_18).trans (if_neg c_19)
            have T9 : turnL ((upd t 0 ((t 0) + 1)) 1) o y q = (upd (tlD ((upd t 0 ((t 0) + 1)) 1) o y) (o + 6) (tlD ((upd t 0 ((t 0) + 1)) 1) o y (o + 6) + tlN o (tlD ((upd t 0 ((t 0) + 1)) 1) o y)), q + tlN o (tlD ((upd t 0 ((t 0) + 1)) 1) o y)) := if_neg c_11
            rw [D9, n9] at T9
            exact ih (o + 7) (upd (upd (upd y (o + 2) ((y (o + 2)) + (((upd t 0 ((t 0) + 1)) 1) + (y (o + 3))))) o 0) (o + 6) (((upd (upd y (o + 2) ((y (o + 2)) + (((upd t 0 ((t 0) + 1)) 1) + (y (o + 3))))) o 0) (o + 6)) + 0)) (q + 0) (r + ((upd (upd (upd y (o + 2) ((y (o + 2)) + (((upd t 0 ((t 0) + 1)) 1) + (y (o + 3))))) o 0) (o + 6) (((upd (upd y (o + 2) ((y (o + 2)) + (((upd t 0 ((t 0) + 1)) 1) + (y (o + 3))))) o 0) (o + 6)) + 0)) (o + 3))) (by omega) (by rw [← ht]; show _ = turnsL ((upd t 0 ((t 0) + 1)) 1) n (o + 7) (turnL ((upd t 0 ((t 0) + 1)) 1) o y q).1 (turnL ((upd t 0 ((t 0) + 1)) 1) o y q).2 (r + (turnL ((upd t 0 ((t 0) + 1)) 1) o y q).1 (o + 3)); rw [T9]; rfl) ls _ _ hP hD hS (lv_sub hl [0, 2, 1, 4, 5, 6] rfl)

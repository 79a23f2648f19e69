set_option maxHeartbeats 4000000 in
set_option maxRecDepth 100000 in
theorem lw_c0 {p : Program} {l : Launch} {e : Env} {s : State} {m : MethodId} {below : List Frame} {meth : Method} {c : Code} {g : wG} {tt : Nat → Nat} {b L : Nat} {xs : Nat → Int32} {A : Nat → Prop} {ad : Nat → Nat → Nat} {bf bk bt cl sl : Nat} (Z : LwX p s m c g tt b L xs A) (hcl : cl + 10 ≤ 600000) (hsl : sl + 180 ≤ 7302250) {tm cn : Nat} {q : CS} {t f k : RI} {S R : Nat → Nat} (h : RQx tm cn q t f k S R) (hq : cL q < 5) (ht9 : tm + 800 ≤ 999999) {ei fi : Nat} {hh : Int32} (hfi : fi < 4) (nx : ∀ (tm' cn' : Nat) (q' : CS) (t' f' k' : RI) (S' R' : Nat → Nat), RQx tm' cn' q' t' f' k' S' R' → cL q' < 5 → tm' ≤ tm + 800 → LwG p l e s m below meth c g b A [(8, .int 1), (5, .int (nI ei)), (1, .ref (ad 8 0)), (2, .ref bf), (3, .ref bk), (4, .ref bt), (0, .ref b)] 950 cl sl (LW g bf bk bt f' k' t' ++ CW g ad q')) : LwG p l e s m below meth c g b A [(8, .int 1), (7, .int (nI fi)), (6, .int hh), (5, .int (nI ei)), (1, .ref (ad 8 0)), (2, .ref bf), (3, .ref bk), (4, .ref bt), (0, .ref b)] 164 cl sl (LW g bf bk bt f k t ++ CW g ad q) := by
  obtain ⟨X, hZ, hT, hL, hA⟩ := Z
  obtain ⟨⟨hx, hb, hml, hown, hts⟩, hK, hN⟩ := id X
  have hc6 := h.cn6
  intro ls H locs hP hD hS hl
  have hP : va_P g.1 vwCl ([(bf, .inl (g.2 0, 28, .inl f)), (bk, .inl (g.2 0, 12, .inl k)), (bt, .inl (g.2 0, 8, .inl t))] ++ (CW g ad q)) H := hP
  have hD : va_D A ([(bf, .inl (g.2 0, 28, .inl f)), (bk, .inl (g.2 0, 12, .inl k)), (bt, .inl (g.2 0, 8, .inl t))] ++ (CW g ad q)) := hD
  refine lv_bipush (v := 10) hx hb dL_law_164 (by decide) ?_
  refine lv_iload hx hb dL_law_166 (lv_at hl 2 rfl) ?_
  refine lv_bipush (v := 7) hx hb dL_law_168 (by decide) ?_
  refine lv_ishr hx hb dL_law_170 ?_
  refine lv_iload hx hb dL_law_171 (lv_at hl 2 rfl) ?_
  refine lv_bipush (v := 25) hx hb dL_law_173 (by decide) ?_
  refine lv_ishr hx hb dL_law_175 ?_
  refine lv_iconst (v := 2) hx hb dL_law_176 (by decide) ?_
  obtain ⟨j_1, hj_1, ej_1⟩ : ∃ j, j < 2 ∧ lowF (hh >>> (25 &&& 31)) 2 = nI j := low_n (hh >>> (25 &&& 31)) (n := 2) (by decide) (by decide)
  refine x_goI (wn := [(bf, .inl (g.2 0, 28, .inl f)), (bk, .inl (g.2 0, 12, .inl k)), (bt, .inl (g.2 0, 8, .inl t))] ++ (CW g ad q)) (x_rS (As := [.int (hh >>> (25 &&& 31)), .int 2]) X (c_L_lowj l g (hh >>> (25 &&& 31)) 2 j_1 (by decide) ej_1 _) yf_L_low ys_L_low wM_L_33 ⟨Nat.le_of_ble_eq_true rfl, Nat.le_of_ble_eq_true rfl⟩ hP hD (p_none _) hl rfl rfl (Nat.le_of_ble_eq_true rfl) dL_law_177 ⟨show cl ≤ 600000 from by omega, show sl ≤ 7302250 from by omega⟩) hP hD hS hA (p_none _) (p_noneB _) (fun H locs hP hD hS => ?_)
  refine lv_if_ne (tgt := 188) hx hb dL_law_180 (by decide) (fun (c_1 : ¬ (nI j_1) = 0) => ?_) (fun (c_1 : (nI j_1) = 0) => ?_)
  · refine lv_bipush (v := 6) hx hb dL_law_188 (by decide) ?_
    obtain ⟨j_2, hj_2, ej_2⟩ : ∃ j, j < 6 ∧ lowF (hh >>> (7 &&& 31)) 6 = nI j := low_n (hh >>> (7 &&& 31)) (n := 6) (by decide) (by decide)
    refine x_goI (wn := [(bf, .inl (g.2 0, 28, .inl f)), (bk, .inl (g.2 0, 12, .inl k)), (bt, .inl (g.2 0, 8, .inl t))] ++ (CW g ad q)) (x_rS (As := [.int (hh >>> (7 &&& 31)), .int 6]) X (c_L_lowj l g (hh >>> (7 &&& 31)) 6 j_2 (by decide) ej_2 _) yf_L_low ys_L_low wM_L_33 ⟨Nat.le_of_ble_eq_true rfl, Nat.le_of_ble_eq_true rfl⟩ hP hD (p_none _) hl rfl rfl (Nat.le_of_ble_eq_true rfl) dL_law_190 ⟨show cl ≤ 600000 from by omega, show sl ≤ 7302250 from by omega⟩) hP hD hS hA (p_none _) (p_noneB _) (fun H locs hP hD hS => ?_)
    refine lv_iadd hx hb dL_law_193 ?_
    refine lv_istore (lv' := [(9, .int (10 + (nI j_2))), (8, .int 1), (7, .int (nI fi)), (6, .int hh), (5, .int (nI ei)), (1, .ref (ad 8 0)), (2, .ref bf), (3, .ref bk), (4, .ref bt), (0, .ref b)]) hx hb dL_law_194 hl (by decide) rfl (fun ls hl => ?_)
    have G9 := l_gear h hfi (show j_2 < 51 from by omega) (v := (10 + (nI j_2))) (z_add rfl rfl)
    refine lv_aload_n hx hb dL_law_196 rfl (lv_at hl 5 rfl) ?_
    refine lv_iload hx hb dL_law_197 (lv_at hl 2 rfl) ?_
    refine lv_iload hx hb dL_law_199 (lv_at hl 0 rfl) ?_
    refine x_goI (wn := [(bf, .inl (g.2 0, 28, .inl f)), (bk, .inl (g.2 0, 12, .inl k)), (bt, .inl (g.2 0, 8, .inl t))] ++ (CW g ad ((kGear q (nI fi) (10 + (nI j_2))).2))) (x_rV (As := [.int (nI fi), .int (10 + (nI j_2))]) X (c_X5_gear l g ad q (nI fi) (10 + (nI j_2)) h.b hq _) yf_X5_gear yi_X5_gear wM_L_67 ⟨Nat.le_of_ble_eq_true rfl, Nat.le_of_ble_eq_true rfl⟩ hP hD List.perm_append_comm 0 rfl rfl hl rfl rfl (Nat.le_of_ble_eq_true rfl) dL_law_201 ⟨show cl ≤ 600000 from by omega, show sl ≤ 7302250 from by omega⟩) hP hD hS hA List.perm_append_comm (List.Perm.refl _) (fun H locs hP hD hS => ?_)
    refine lv_aload_n hx hb dL_law_204 rfl (lv_at hl 6 rfl) ?_
    refine lv_bipush (v := 7) hx hb dL_law_205 (by decide) ?_
    refine lv_iload hx hb dL_law_207 (lv_at hl 2 rfl) ?_
    refine lv_imul hx hb dL_law_209 ?_
    refine lv_iconst (v := 1) hx hb dL_law_210 (by decide) ?_
    refine lv_iadd hx hb dL_law_211 ?_
    refine x_iald (v := (f ((7 * fi) + 1))) X 0 ((7 * fi) + 1) hP rfl (z_add (z_mul rfl rfl) rfl) (by omega) (Nat.le_of_ble_eq_true rfl) rfl dL_law_212 ?_
    refine lv_icmp_ne (tgt := 220) hx hb dL_law_213 (by decide) (fun q9 => absurd (show ((kGear q (nI fi) (10 + (nI j_2))).1) = (f ((7 * fi) + 1)) from G9.1) q9) (fun c_2 => ?_)
    refine lv_iconst (v := 1) hx hb dL_law_216 (by decide) ?_
    refine lv_goto (tgt := 221) hx hb dL_law_217 (by decide) ?_
    refine lv_istore (lv' := [(8, .int 1), (9, .int (10 + (nI j_2))), (7, .int (nI fi)), (6, .int hh), (5, .int (nI ei)), (1, .ref (ad 8 0)), (2, .ref bf), (3, .ref bk), (4, .ref bt), (0, .ref b)]) hx hb dL_law_221 hl (by decide) rfl (fun ls hl => ?_)
    refine lv_aload_n hx hb dL_law_223 rfl (lv_at hl 6 rfl) ?_
    refine lv_bipush (v := 7) hx hb dL_law_224 (by decide) ?_
    refine lv_iload hx hb dL_law_226 (lv_at hl 2 rfl) ?_
    refine lv_imul hx hb dL_law_228 ?_
    refine lv_iconst (v := 1) hx hb dL_law_229 (by decide) ?_
    refine lv_iadd hx hb dL_law_230 ?_
    refine lv_iload hx hb dL_law_231 (lv_at hl 1 rfl) ?_
    refine x_iast (ws2 := [(bf, .inl (g.2 0, 28, .inl (upd f ((7 * fi) + 1) (10 + (nI j_2))))), (bk, .inl (g.2 0, 12, .inl k)), (bt, .inl (g.2 0, 8, .inl t))] ++ (CW g ad ((kGear q (nI fi) (10 + (nI j_2))).2))) X 0 ((7 * fi) + 1) hP hD hS rfl (z_add (z_mul rfl rfl) rfl) (by omega) (Nat.le_of_ble_eq_true rfl) rfl dL_law_233 (fun H locs hP hD hS => ?_)
    refine lv_aload_n hx hb dL_law_234 rfl (lv_at hl 6 rfl) ?_
    refine lv_bipush (v := 7) hx hb dL_law_235 (by decide) ?_
    refine lv_iload hx hb dL_law_237 (lv_at hl 2 rfl) ?_
    refine lv_imul hx hb dL_law_239 ?_
    refine lv_iconst (v := 2) hx hb dL_law_240 (by decide) ?_
    refine lv_iadd hx hb dL_law_241 ?_
    refine lv_iconst (v := 0) hx hb dL_law_242 (by decide) ?_
    refine x_iast (ws2 := [(bf, .inl (g.2 0, 28, .inl (upd (upd f ((7 * fi) + 1) (10 + (nI j_2))) ((7 * fi) + 2) 0))), (bk, .inl (g.2 0, 12, .inl k)), (bt, .inl (g.2 0, 8, .inl t))] ++ (CW g ad ((kGear q (nI fi) (10 + (nI j_2))).2))) X 0 ((7 * fi) + 2) hP hD hS rfl (z_add (z_mul rfl rfl) rfl) (by omega) (Nat.le_of_ble_eq_true rfl) rfl dL_law_243 (fun H locs hP hD hS => ?_)
    refine lv_goto (tgt := 950) hx hb dL_law_244 (by decide) ?_
    exact nx _ _ _ _ _ _ _ _ G9.2.1 G9.2.2 (Nat.le_add_right _ _) ls _ _ hP hD hS (lv_sub hl [0, 4, 5, 6, 7, 8, 9] rfl)
  · refine lv_bipush (v := 51) hx hb dL_law_183 (by decide) ?_
    refine lv_goto (tgt := 190) hx hb dL_law_185 (by decide) ?_
    obtain ⟨j_3, hj_3, ej_3⟩ : ∃ j, j < 51 ∧ lowF (hh >>> (7 &&& 31)) 51 = nI j := low_n (hh >>> (7 &&& 31)) (n := 51) (by decide) (by decide)
    refine x_goI (wn := [(bf, .inl (g.2 0, 28, .inl f)), (bk, .inl (g.2 0, 12, .inl k)), (bt, .inl (g.2 0, 8, .inl t))] ++ (CW g ad q)) (x_rS (As := [.int (hh >>> (7 &&& 31)), .int 51]) X (c_L_lowj l g (hh >>> (7 &&& 31)) 51 j_3 (by decide) ej_3 _) yf_L_low ys_L_low wM_L_33 ⟨Nat.le_of_ble_eq_true rfl, Nat.le_of_ble_eq_true rfl⟩ hP hD (p_none _) hl rfl rfl (Nat.le_of_ble_eq_true rfl) dL_law_190 ⟨show cl ≤ 600000 from by omega, show sl ≤ 7302250 from by omega⟩) hP hD hS hA (p_none _) (p_noneB _) (fun H locs hP hD hS => ?_)
    refine lv_iadd hx hb dL_law_193 ?_
    refine lv_istore (lv' := [(9, .int (10 + (nI j_3))), (8, .int 1), (7, .int (nI fi)), (6, .int hh), (5, .int (nI ei)), (1, .ref (ad 8 0)), (2, .ref bf), (3, .ref bk), (4, .ref bt), (0, .ref b)]) hx hb dL_law_194 hl (by decide) rfl (fun ls hl => ?_)
    have G9 := l_gear h hfi (show j_3 < 51 from by omega) (v := (10 + (nI j_3))) (z_add rfl rfl)
    refine lv_aload_n hx hb dL_law_196 rfl (lv_at hl 5 rfl) ?_
    refine lv_iload hx hb dL_law_197 (lv_at hl 2 rfl) ?_
    refine lv_iload hx hb dL_law_199 (lv_at hl 0 rfl) ?_
    refine x_goI (wn := [(bf, .inl (g.2 0, 28, .inl f)), (bk, .inl (g.2 0, 12, .inl k)), (bt, .inl (g.2 0, 8, .inl t))] ++ (CW g ad ((kGear q (nI fi) (10 + (nI j_3))).2))) (x_rV (As := [.int (nI fi), .int (10 + (nI j_3))]) X (c_X5_gear l g ad q (nI fi) (10 + (nI j_3)) h.b hq _) yf_X5_gear yi_X5_gear wM_L_67 ⟨Nat.le_of_ble_eq_true rfl, Nat.le_of_ble_eq_true rfl⟩ hP hD List.perm_append_comm 0 rfl rfl hl rfl rfl (Nat.le_of_ble_eq_true rfl) dL_law_201 ⟨show cl ≤ 600000 from by omega, show sl ≤ 7302250 from by omega⟩) hP hD hS hA List.perm_append_comm (List.Perm.refl _) (fun H locs hP hD hS => ?_)
    refine lv_aload_n hx hb dL_law_204 rfl (lv_at hl 6 rfl) ?_
    refine lv_bipush (v := 7) hx hb dL_law_205 (by decide) ?_
    refine lv_iload hx hb dL_law_207 (lv_at hl 2 rfl) ?_
    refine lv_imul hx hb dL_law_209 ?_
    refine lv_iconst (v := 1) hx hb dL_law_210 (by decide) ?_
    refine lv_iadd hx hb dL_law_211 ?_
    refine x_iald (v := (f ((7 * fi) + 1))) X 0 ((7 * fi) + 1) hP rfl (z_add (z_mul rfl rfl) rfl) (by omega) (Nat.le_of_ble_eq_true rfl) rfl dL_law_212 ?_
    refine lv_icmp_ne (tgt := 220) hx hb dL_law_213 (by decide) (fun q9 => absurd (show ((kGear q (nI fi) (10 + (nI j_3))).1) = (f ((7 * fi) + 1)) from G9.1) q9) (fun c_3 => ?_)
    refine lv_iconst (v := 1) hx hb dL_law_216 (by decide) ?_
    refine lv_goto (tgt := 221) hx hb dL_law_217 (by decide) ?_
    refine lv_istore (lv' := [(8, .int 1), (9, .int (10 + (nI j_3))), (7, .int (nI fi)), (6, .int hh), (5, .int (nI ei)), (1, .ref (ad 8 0)), (2, .ref bf), (3, .ref bk), (4, .ref bt), (0, .ref b)]) hx hb dL_law_221 hl (by decide) rfl (fun ls hl => ?_)
    refine lv_aload_n hx hb dL_law_223 rfl (lv_at hl 6 rfl) ?_
    refine lv_bipush (v := 7) hx hb dL_law_224 (by decide) ?_
    refine lv_iload hx hb dL_law_226 (lv_at hl 2 rfl) ?_
    refine lv_imul hx hb dL_law_228 ?_
    refine lv_iconst (v := 1) hx hb dL_law_229 (by decide) ?_
    refine lv_iadd hx hb dL_law_230 ?_
    refine lv_iload hx hb dL_law_231 (lv_at hl 1 rfl) ?_
    refine x_iast (ws2 := [(bf, .inl (g.2 0, 28, .inl (upd f ((7 * fi) + 1) (10 + (nI j_3))))), (bk, .inl (g.2 0, 12, .inl k)), (bt, .inl (g.2 0, 8, .inl t))] ++ (CW g ad ((kGear q (nI fi) (10 + (nI j_3))).2))) X 0 ((7 * fi) + 1) hP hD hS rfl (z_add (z_mul rfl rfl) rfl) (by omega) (Nat.le_of_ble_eq_true rfl) rfl dL_law_233 (fun H locs hP hD hS => ?_)
    refine lv_aload_n hx hb dL_law_234 rfl (lv_at hl 6 rfl) ?_
    refine lv_bipush (v := 7) hx hb dL_law_235 (by decide) ?_
    refine lv_iload hx hb dL_law_237 (lv_at hl 2 rfl) ?_
    refine lv_imul hx hb dL_law_239 ?_
    refine lv_iconst (v := 2) hx hb dL_law_240 (by decide) ?_
    refine lv_iadd hx hb dL_law_241 ?_
    refine lv_iconst (v := 0) hx hb dL_law_242 (by decide) ?_
    refine x_iast (ws2 := [(bf, .inl (g.2 0, 28, .inl (upd (upd f ((7 * fi) + 1) (10 + (nI j_3))) ((7 * fi) + 2) 0))), (bk, .inl (g.2 0, 12, .inl k)), (bt, .inl (g.2 0, 8, .inl t))] ++ (CW g ad ((kGear q (nI fi) (10 + (nI j_3))).2))) X 0 ((7 * fi) + 2) hP hD hS rfl (z_add (z_mul rfl rfl) rfl) (by omega) (Nat.le_of_ble_eq_true rfl) rfl dL_law_243 (fun H locs hP hD hS => ?_)
    refine lv_goto (tgt := 950) hx hb dL_law_244 (by decide) ?_
    exact nx _ _ _ _ _ _ _ _ G9.2.1 G9.2.2 (Nat.le_add_right _ _) ls _ _ hP hD hS (lv_sub hl [0, 4, 5, 6, 7, 8, 9] rfl)

set_option maxHeartbeats 4000000 in
set_option maxRecDepth 100000 in
theorem lw_c1 {p : Program} {l : Launch} {e : Env} {s : State} {m : MethodId} {below : List Frame} {meth : Method} {c : Code} {g : wG} {tt : Nat → Nat} {b L : Nat} {xs : Nat → Int32} {A : Nat → Prop} {ad : Nat → Nat → Nat} {bf bk bt cl sl : Nat} (Z : LwX p s m c g tt b L xs A) (hcl : cl + 10 ≤ 600000) (hsl : sl + 180 ≤ 7302250) {tm cn : Nat} {q : CS} {t f k : RI} {S R : Nat → Nat} (h : RQx tm cn q t f k S R) (hq : cL q < 5) (ht9 : tm + 800 ≤ 999999) {ei fi : Nat} {hh : Int32} (hfi : fi < 4) (nx : ∀ (tm' cn' : Nat) (q' : CS) (t' f' k' : RI) (S' R' : Nat → Nat), RQx tm' cn' q' t' f' k' S' R' → cL q' < 5 → tm' ≤ tm + 800 → LwG p l e s m below meth c g b A [(8, .int 1), (5, .int (nI ei)), (1, .ref (ad 8 0)), (2, .ref bf), (3, .ref bk), (4, .ref bt), (0, .ref b)] 950 cl sl (LW g bf bk bt f' k' t' ++ CW g ad q')) : LwG p l e s m below meth c g b A [(8, .int 1), (7, .int (nI fi)), (6, .int hh), (5, .int (nI ei)), (1, .ref (ad 8 0)), (2, .ref bf), (3, .ref bk), (4, .ref bt), (0, .ref b)] 247 cl sl (LW g bf bk bt f k t ++ CW g ad q) := by
  obtain ⟨X, hZ, hT, hL, hA⟩ := Z
  obtain ⟨⟨hx, hb, hml, hown, hts⟩, hK, hN⟩ := id X
  have hc6 := h.cn6
  intro ls H locs hP hD hS hl
  have hP : va_P g.1 vwCl ([(bf, .inl (g.2 0, 28, .inl f)), (bk, .inl (g.2 0, 12, .inl k)), (bt, .inl (g.2 0, 8, .inl t))] ++ (CW g ad q)) H := hP
  have hD : va_D A ([(bf, .inl (g.2 0, 28, .inl f)), (bk, .inl (g.2 0, 12, .inl k)), (bt, .inl (g.2 0, 8, .inl t))] ++ (CW g ad q)) := hD
  refine lv_aload_n hx hb dL_law_247 rfl (lv_at hl 5 rfl) ?_
  refine lv_bipush (v := 7) hx hb dL_law_248 (by decide) ?_
  refine lv_iload hx hb dL_law_250 (lv_at hl 1 rfl) ?_
  refine lv_imul hx hb dL_law_252 ?_
  refine lv_iconst (v := 3) hx hb dL_law_253 (by decide) ?_
  refine lv_iadd hx hb dL_law_254 ?_
  refine lv_dup2_11 hx hb dL_law_255 rfl rfl ?_
  refine x_iald (v := (f ((7 * fi) + 3))) X 0 ((7 * fi) + 3) hP rfl (z_add (z_mul rfl rfl) rfl) (by omega) (Nat.le_of_ble_eq_true rfl) rfl dL_law_256 ?_
  refine lv_aload_n hx hb dL_law_257 rfl (lv_at hl 5 rfl) ?_
  refine lv_bipush (v := 7) hx hb dL_law_258 (by decide) ?_
  refine lv_iload hx hb dL_law_260 (lv_at hl 1 rfl) ?_
  refine lv_imul hx hb dL_law_262 ?_
  refine lv_iconst (v := 3) hx hb dL_law_263 (by decide) ?_
  refine lv_iadd hx hb dL_law_264 ?_
  refine x_iald (v := (f ((7 * fi) + 3))) X 0 ((7 * fi) + 3) hP rfl (z_add (z_mul rfl rfl) rfl) (by omega) (Nat.le_of_ble_eq_true rfl) rfl dL_law_265 ?_
  refine lv_if_le (tgt := 273) hx hb dL_law_266 (by decide) (fun (c_1 : (f ((7 * fi) + 3)) ≤ 0) => ?_) (fun (c_1 : ¬ (f ((7 * fi) + 3)) ≤ 0) => ?_)
  · refine lv_iconst (v := 0) hx hb dL_law_273 (by decide) ?_
    refine lv_isub hx hb dL_law_274 ?_
    refine x_iast (ws2 := [(bf, .inl (g.2 0, 28, .inl (upd f ((7 * fi) + 3) ((f ((7 * fi) + 3)) - 0)))), (bk, .inl (g.2 0, 12, .inl k)), (bt, .inl (g.2 0, 8, .inl t))] ++ (CW g ad q)) X 0 ((7 * fi) + 3) hP hD hS rfl (z_add (z_mul rfl rfl) rfl) (by omega) (Nat.le_of_ble_eq_true rfl) rfl dL_law_275 (fun H locs hP hD hS => ?_)
    refine lv_aload_n hx hb dL_law_276 rfl (lv_at hl 5 rfl) ?_
    refine lv_bipush (v := 7) hx hb dL_law_277 (by decide) ?_
    refine lv_iload hx hb dL_law_279 (lv_at hl 1 rfl) ?_
    refine lv_imul hx hb dL_law_281 ?_
    refine lv_iconst (v := 2) hx hb dL_law_282 (by decide) ?_
    refine lv_iadd hx hb dL_law_283 ?_
    refine lv_iconst (v := 0) hx hb dL_law_284 (by decide) ?_
    refine x_iast (ws2 := [(bf, .inl (g.2 0, 28, .inl (upd (upd f ((7 * fi) + 3) ((f ((7 * fi) + 3)) - 0)) ((7 * fi) + 2) 0))), (bk, .inl (g.2 0, 12, .inl k)), (bt, .inl (g.2 0, 8, .inl t))] ++ (CW g ad q)) X 0 ((7 * fi) + 2) hP hD hS rfl (z_add (z_mul rfl rfl) rfl) (by omega) (Nat.le_of_ble_eq_true rfl) rfl dL_law_285 (fun H locs hP hD hS => ?_)
    have G9 := l_oil h hfi (v := f (7 * fi + 3) - 0) (by rw [if_pos c_1])
    refine lv_aload_n hx hb dL_law_286 rfl (lv_at hl 4 rfl) ?_
    refine lv_iload hx hb dL_law_287 (lv_at hl 1 rfl) ?_
    refine x_goI (wn := [(bf, .inl (g.2 0, 28, .inl (upd (upd f ((7 * fi) + 3) ((f ((7 * fi) + 3)) - 0)) ((7 * fi) + 2) 0))), (bk, .inl (g.2 0, 12, .inl k)), (bt, .inl (g.2 0, 8, .inl t))] ++ (CW g ad ((kOil q (nI fi)).2))) (x_rV (As := [.int (nI fi)]) X (c_X5_oil l g ad q (nI fi) h.b hq _) yf_X5_oil yi_X5_oil wM_L_70 ⟨Nat.le_of_ble_eq_true rfl, Nat.le_of_ble_eq_true rfl⟩ hP hD List.perm_append_comm 0 rfl rfl hl rfl rfl (Nat.le_of_ble_eq_true rfl) dL_law_289 ⟨show cl ≤ 600000 from by omega, show sl ≤ 7302250 from by omega⟩) hP hD hS hA List.perm_append_comm (List.Perm.refl _) (fun H locs hP hD hS => ?_)
    refine lv_aload_n hx hb dL_law_292 rfl (lv_at hl 5 rfl) ?_
    refine lv_bipush (v := 7) hx hb dL_law_293 (by decide) ?_
    refine lv_iload hx hb dL_law_295 (lv_at hl 1 rfl) ?_
    refine lv_imul hx hb dL_law_297 ?_
    refine lv_iconst (v := 3) hx hb dL_law_298 (by decide) ?_
    refine lv_iadd hx hb dL_law_299 ?_
    refine x_iald (v := ((upd (upd f ((7 * fi) + 3) ((f ((7 * fi) + 3)) - 0)) ((7 * fi) + 2) 0) ((7 * fi) + 3))) X 0 ((7 * fi) + 3) hP rfl (z_add (z_mul rfl rfl) rfl) (by omega) (Nat.le_of_ble_eq_true rfl) rfl dL_law_300 ?_
    refine lv_icmp_ne (tgt := 308) hx hb dL_law_301 (by decide) (fun q9 => absurd (show ((kOil q (nI fi)).1) = ((upd (upd f ((7 * fi) + 3) ((f ((7 * fi) + 3)) - 0)) ((7 * fi) + 2) 0) ((7 * fi) + 3)) from (G9.1.trans (by rw [up_n (by omega), up_s]))) q9) (fun c_2 => ?_)
    refine lv_iconst (v := 1) hx hb dL_law_304 (by decide) ?_
    refine lv_goto (tgt := 309) hx hb dL_law_305 (by decide) ?_
    refine lv_istore (lv' := [(8, .int 1), (7, .int (nI fi)), (6, .int hh), (5, .int (nI ei)), (1, .ref (ad 8 0)), (2, .ref bf), (3, .ref bk), (4, .ref bt), (0, .ref b)]) hx hb dL_law_309 hl (by decide) rfl (fun ls hl => ?_)
    refine lv_goto (tgt := 950) hx hb dL_law_311 (by decide) ?_
    exact nx _ _ _ _ _ _ _ _ G9.2.1 G9.2.2 (Nat.le_add_right _ _) ls _ _ hP hD hS (lv_sub hl [0, 3, 4, 5, 6, 7, 8] rfl)
  · refine lv_iconst (v := 1) hx hb dL_law_269 (by decide) ?_
    refine lv_goto (tgt := 274) hx hb dL_law_270 (by decide) ?_
    refine lv_isub hx hb dL_law_274 ?_
    refine x_iast (ws2 := [(bf, .inl (g.2 0, 28, .inl (upd f ((7 * fi) + 3) ((f ((7 * fi) + 3)) - 1)))), (bk, .inl (g.2 0, 12, .inl k)), (bt, .inl (g.2 0, 8, .inl t))] ++ (CW g ad q)) X 0 ((7 * fi) + 3) hP hD hS rfl (z_add (z_mul rfl rfl) rfl) (by omega) (Nat.le_of_ble_eq_true rfl) rfl dL_law_275 (fun H locs hP hD hS => ?_)
    refine lv_aload_n hx hb dL_law_276 rfl (lv_at hl 5 rfl) ?_
    refine lv_bipush (v := 7) hx hb dL_law_277 (by decide) ?_
    refine lv_iload hx hb dL_law_279 (lv_at hl 1 rfl) ?_
    refine lv_imul hx hb dL_law_281 ?_
    refine lv_iconst (v := 2) hx hb dL_law_282 (by decide) ?_
    refine lv_iadd hx hb dL_law_283 ?_
    refine lv_iconst (v := 0) hx hb dL_law_284 (by decide) ?_
    refine x_iast (ws2 := [(bf, .inl (g.2 0, 28, .inl (upd (upd f ((7 * fi) + 3) ((f ((7 * fi) + 3)) - 1)) ((7 * fi) + 2) 0))), (bk, .inl (g.2 0, 12, .inl k)), (bt, .inl (g.2 0, 8, .inl t))] ++ (CW g ad q)) X 0 ((7 * fi) + 2) hP hD hS rfl (z_add (z_mul rfl rfl) rfl) (by omega) (Nat.le_of_ble_eq_true rfl) rfl dL_law_285 (fun H locs hP hD hS => ?_)
    have G9 := l_oil h hfi (v := f (7 * fi + 3) - 1) (by rw [if_neg c_1])
    refine lv_aload_n hx hb dL_law_286 rfl (lv_at hl 4 rfl) ?_
    refine lv_iload hx hb dL_law_287 (lv_at hl 1 rfl) ?_
    refine x_goI (wn := [(bf, .inl (g.2 0, 28, .inl (upd (upd f ((7 * fi) + 3) ((f ((7 * fi) + 3)) - 1)) ((7 * fi) + 2) 0))), (bk, .inl (g.2 0, 12, .inl k)), (bt, .inl (g.2 0, 8, .inl t))] ++ (CW g ad ((kOil q (nI fi)).2))) (x_rV (As := [.int (nI fi)]) X (c_X5_oil l g ad q (nI fi) h.b hq _) yf_X5_oil yi_X5_oil wM_L_70 ⟨Nat.le_of_ble_eq_true rfl, Nat.le_of_ble_eq_true rfl⟩ hP hD List.perm_append_comm 0 rfl rfl hl rfl rfl (Nat.le_of_ble_eq_true rfl) dL_law_289 ⟨show cl ≤ 600000 from by omega, show sl ≤ 7302250 from by omega⟩) hP hD hS hA List.perm_append_comm (List.Perm.refl _) (fun H locs hP hD hS => ?_)
    refine lv_aload_n hx hb dL_law_292 rfl (lv_at hl 5 rfl) ?_
    refine lv_bipush (v := 7) hx hb dL_law_293 (by decide) ?_
    refine lv_iload hx hb dL_law_295 (lv_at hl 1 rfl) ?_
    refine lv_imul hx hb dL_law_297 ?_
    refine lv_iconst (v := 3) hx hb dL_law_298 (by decide) ?_
    refine lv_iadd hx hb dL_law_299 ?_
    refine x_iald (v := ((upd (upd f ((7 * fi) + 3) ((f ((7 * fi) + 3)) - 1)) ((7 * fi) + 2) 0) ((7 * fi) + 3))) X 0 ((7 * fi) + 3) hP rfl (z_add (z_mul rfl rfl) rfl) (by omega) (Nat.le_of_ble_eq_true rfl) rfl dL_law_300 ?_
    refine lv_icmp_ne (tgt := 308) hx hb dL_law_301 (by decide) (fun q9 => absurd (show ((kOil q (nI fi)).1) = ((upd (upd f ((7 * fi) + 3) ((f ((7 * fi) + 3)) - 1)) ((7 * fi) + 2) 0) ((7 * fi) + 3)) from (G9.1.trans (by rw [up_n (by omega), up_s]))) q9) (fun c_3 => ?_)
    refine lv_iconst (v := 1) hx hb dL_law_304 (by decide) ?_
    refine lv_goto (tgt := 309) hx hb dL_law_305 (by decide) ?_
    refine lv_istore (lv' := [(8, .int 1), (7, .int (nI fi)), (6, .int hh), (5, .int (nI ei)), (1, .ref (ad 8 0)), (2, .ref bf), (3, .ref bk), (4, .ref bt), (0, .ref b)]) hx hb dL_law_309 hl (by decide) rfl (fun ls hl => ?_)
    refine lv_goto (tgt := 950) hx hb dL_law_311 (by decide) ?_
    exact nx _ _ _ _ _ _ _ _ G9.2.1 G9.2.2 (Nat.le_add_right _ _) ls _ _ hP hD hS (lv_sub hl [0, 3, 4, 5, 6, 7, 8] rfl)

set_option maxHeartbeats 4000000 in
set_option maxRecDepth 100000 in
theorem lw_c2 {p : Program} {l : Launch} {e : Env} {s : State} {m : MethodId} {below : List Frame} {meth : Method} {c : Code} {g : wG} {tt : Nat → Nat} {b L : Nat} {xs : Nat → Int32} {A : Nat → Prop} {ad : Nat → Nat → Nat} {bf bk bt cl sl : Nat} (Z : LwX p s m c g tt b L xs A) (hcl : cl + 10 ≤ 600000) (hsl : sl + 180 ≤ 7302250) {tm cn : Nat} {q : CS} {t f k : RI} {S R : Nat → Nat} (h : RQx tm cn q t f k S R) (hq : cL q < 5) (ht9 : tm + 800 ≤ 999999) {ei fi : Nat} {hh : Int32} (hfi : fi < 4) (nx : ∀ (tm' cn' : Nat) (q' : CS) (t' f' k' : RI) (S' R' : Nat → Nat), RQx tm' cn' q' t' f' k' S' R' → cL q' < 5 → tm' ≤ tm + 800 → LwG p l e s m below meth c g b A [(8, .int 1), (5, .int (nI ei)), (1, .ref (ad 8 0)), (2, .ref bf), (3, .ref bk), (4, .ref bt), (0, .ref b)] 950 cl sl (LW g bf bk bt f' k' t' ++ CW g ad q')) : LwG p l e s m below meth c g b A [(8, .int 1), (7, .int (nI fi)), (6, .int hh), (5, .int (nI ei)), (1, .ref (ad 8 0)), (2, .ref bf), (3, .ref bk), (4, .ref bt), (0, .ref b)] 314 cl sl (LW g bf bk bt f k t ++ CW g ad q) := by
  obtain ⟨X, hZ, hT, hL, hA⟩ := Z
  obtain ⟨⟨hx, hb, hml, hown, hts⟩, hK, hN⟩ := id X
  have hc6 := h.cn6
  intro ls H locs hP hD hS hl
  have hP : va_P g.1 vwCl ([(bf, .inl (g.2 0, 28, .inl f)), (bk, .inl (g.2 0, 12, .inl k)), (bt, .inl (g.2 0, 8, .inl t))] ++ (CW g ad q)) H := hP
  have hD : va_D A ([(bf, .inl (g.2 0, 28, .inl f)), (bk, .inl (g.2 0, 12, .inl k)), (bt, .inl (g.2 0, 8, .inl t))] ++ (CW g ad q)) := hD
  refine lv_iload hx hb dL_law_314 (lv_at hl 2 rfl) ?_
  refine lv_bipush (v := 7) hx hb dL_law_316 (by decide) ?_
  refine lv_ishr hx hb dL_law_318 ?_
  refine lv_sipush (v := 720) hx hb dL_law_319 (by decide) ?_
  obtain ⟨j_1, hj_1, ej_1⟩ : ∃ j, j < 720 ∧ lowF (hh >>> (7 &&& 31)) 720 = nI j := low_n (hh >>> (7 &&& 31)) (n := 720) (by decide) (by decide)
  refine x_goI (wn := [(bf, .inl (g.2 0, 28, .inl f)), (bk, .inl (g.2 0, 12, .inl k)), (bt, .inl (g.2 0, 8, .inl t))] ++ (CW g ad q)) (x_rS (As := [.int (hh >>> (7 &&& 31)), .int 720]) X (c_L_lowj l g (hh >>> (7 &&& 31)) 720 j_1 (by decide) ej_1 _) yf_L_low ys_L_low wM_L_33 ⟨Nat.le_of_ble_eq_true rfl, Nat.le_of_ble_eq_true rfl⟩ hP hD (p_none _) hl rfl rfl (Nat.le_of_ble_eq_true rfl) dL_law_322 ⟨show cl ≤ 600000 from by omega, show sl ≤ 7302250 from by omega⟩) hP hD hS hA (p_none _) (p_noneB _) (fun H locs hP hD hS => ?_)
  refine lv_istore (lv' := [(10, .int (nI j_1)), (8, .int 1), (7, .int (nI fi)), (6, .int hh), (5, .int (nI ei)), (1, .ref (ad 8 0)), (2, .ref bf), (3, .ref bk), (4, .ref bt), (0, .ref b)]) hx hb dL_law_325 hl (by decide) rfl (fun ls hl => ?_)
  have G9 := l_dial h hfi hj_1
  refine lv_aload_n hx hb dL_law_327 rfl (lv_at hl 5 rfl) ?_
  refine lv_iload hx hb dL_law_328 (lv_at hl 2 rfl) ?_
  refine lv_iload hx hb dL_law_330 (lv_at hl 0 rfl) ?_
  refine x_goI (wn := [(bf, .inl (g.2 0, 28, .inl f)), (bk, .inl (g.2 0, 12, .inl k)), (bt, .inl (g.2 0, 8, .inl t))] ++ (CW g ad ((kDial q (nI fi) (nI j_1)).2))) (x_rV (As := [.int (nI fi), .int (nI j_1)]) X (c_X5_dial l g ad q (nI fi) (nI j_1) h.b hq _) yf_X5_dial yi_X5_dial wM_L_73 ⟨Nat.le_of_ble_eq_true rfl, Nat.le_of_ble_eq_true rfl⟩ hP hD List.perm_append_comm 0 rfl rfl hl rfl rfl (Nat.le_of_ble_eq_true rfl) dL_law_332 ⟨show cl ≤ 600000 from by omega, show sl ≤ 7302250 from by omega⟩) hP hD hS hA List.perm_append_comm (List.Perm.refl _) (fun H locs hP hD hS => ?_)
  refine lv_aload_n hx hb dL_law_335 rfl (lv_at hl 6 rfl) ?_
  refine lv_bipush (v := 7) hx hb dL_law_336 (by decide) ?_
  refine lv_iload hx hb dL_law_338 (lv_at hl 2 rfl) ?_
  refine lv_imul hx hb dL_law_340 ?_
  refine x_iald (v := (f (7 * fi))) X 0 (7 * fi) hP rfl (z_mul rfl rfl) (by omega) (Nat.le_of_ble_eq_true rfl) rfl dL_law_341 ?_
  refine lv_iload hx hb dL_law_342 (lv_at hl 0 rfl) ?_
  refine x_goI (wn := [(bf, .inl (g.2 0, 28, .inl f)), (bk, .inl (g.2 0, 12, .inl k)), (bt, .inl (g.2 0, 8, .inl t))] ++ (CW g ad ((kDial q (nI fi) (nI j_1)).2))) (x_rS (As := [.int (f (7 * fi)), .int (nI j_1)]) X (c_L_apart l g (f (7 * fi)) (nI j_1) (h.fd fi hfi) ⟨_, hj_1, rfl⟩ _) yf_L_apart ys_L_apart wM_L_20 ⟨Nat.le_of_ble_eq_true rfl, Nat.le_of_ble_eq_true rfl⟩ hP hD (p_none _) hl rfl rfl (Nat.le_of_ble_eq_true rfl) dL_law_344 ⟨show cl ≤ 600000 from by omega, show sl ≤ 7302250 from by omega⟩) hP hD hS hA (p_none _) (p_noneB _) (fun H locs hP hD hS => ?_)
  refine lv_icmp_ne (tgt := 354) hx hb dL_law_347 (by decide) (fun q9 => absurd (show ((kDial q (nI fi) (nI j_1)).1) = (distC (f (7 * fi)) (nI j_1)) from G9.1) q9) (fun c_1 => ?_)
  refine lv_iconst (v := 1) hx hb dL_law_350 (by decide) ?_
  refine lv_goto (tgt := 355) hx hb dL_law_351 (by decide) ?_
  refine lv_istore (lv' := [(8, .int 1), (10, .int (nI j_1)), (7, .int (nI fi)), (6, .int hh), (5, .int (nI ei)), (1, .ref (ad 8 0)), (2, .ref bf), (3, .ref bk), (4, .ref bt), (0, .ref b)]) hx hb dL_law_355 hl (by decide) rfl (fun ls hl => ?_)
  refine lv_aload_n hx hb dL_law_357 rfl (lv_at hl 6 rfl) ?_
  refine lv_bipush (v := 7) hx hb dL_law_358 (by decide) ?_
  refine lv_iload hx hb dL_law_360 (lv_at hl 2 rfl) ?_
  refine lv_imul hx hb dL_law_362 ?_
  refine lv_iload hx hb dL_law_363 (lv_at hl 1 rfl) ?_
  refine x_iast (ws2 := [(bf, .inl (g.2 0, 28, .inl (upd f (7 * fi) (nI j_1)))), (bk, .inl (g.2 0, 12, .inl k)), (bt, .inl (g.2 0, 8, .inl t))] ++ (CW g ad ((kDial q (nI fi) (nI j_1)).2))) X 0 (7 * fi) hP hD hS rfl (z_mul rfl rfl) (by omega) (Nat.le_of_ble_eq_true rfl) rfl dL_law_365 (fun H locs hP hD hS => ?_)
  refine lv_goto (tgt := 950) hx hb dL_law_366 (by decide) ?_
  exact nx _ _ _ _ _ _ _ _ G9.2.1 G9.2.2 (Nat.le_add_right _ _) ls _ _ hP hD hS (lv_sub hl [0, 4, 5, 6, 7, 8, 9] rfl)

set_option maxHeartbeats 4000000 in
set_option maxRecDepth 100000 in
theorem lw_c3 {p : Program} {l : Launch} {e : Env} {s : State} {m : MethodId} {below : List Frame} {meth : Method} {c : Code} {g : wG} {tt : Nat → Nat} {b L : Nat} {xs : Nat → Int32} {A : Nat → Prop} {ad : Nat → Nat → Nat} {bf bk bt cl sl : Nat} (Z : LwX p s m c g tt b L xs A) (hcl : cl + 10 ≤ 600000) (hsl : sl + 180 ≤ 7302250) {tm cn : Nat} {q : CS} {t f k : RI} {S R : Nat → Nat} (h : RQx tm cn q t f k S R) (hq : cL q < 5) (ht9 : tm + 800 ≤ 999999) {ei fi : Nat} {hh : Int32} (hfi : fi < 4) (nx : ∀ (tm' cn' : Nat) (q' : CS) (t' f' k' : RI) (S' R' : Nat → Nat), RQx tm' cn' q' t' f' k' S' R' → cL q' < 5 → tm' ≤ tm + 800 → LwG p l e s m below meth c g b A [(8, .int 1), (5, .int (nI ei)), (1, .ref (ad 8 0)), (2, .ref bf), (3, .ref bk), (4, .ref bt), (0, .ref b)] 950 cl sl (LW g bf bk bt f' k' t' ++ CW g ad q')) : LwG p l e s m below meth c g b A [(8, .int 1), (7, .int (nI fi)), (6, .int hh), (5, .int (nI ei)), (1, .ref (ad 8 0)), (2, .ref bf), (3, .ref bk), (4, .ref bt), (0, .ref b)] 369 cl sl (LW g bf bk bt f k t ++ CW g ad q) := by
  obtain ⟨X, hZ, hT, hL, hA⟩ := Z
  obtain ⟨⟨hx, hb, hml, hown, hts⟩, hK, hN⟩ := id X
  have hc6 := h.cn6
  intro ls H locs hP hD hS hl
  have hP : va_P g.1 vwCl ([(bf, .inl (g.2 0, 28, .inl f)), (bk, .inl (g.2 0, 12, .inl k)), (bt, .inl (g.2 0, 8, .inl t))] ++ (CW g ad q)) H := hP
  have hD : va_D A ([(bf, .inl (g.2 0, 28, .inl f)), (bk, .inl (g.2 0, 12, .inl k)), (bt, .inl (g.2 0, 8, .inl t))] ++ (CW g ad q)) := hD
  refine lv_aload_n hx hb dL_law_369 rfl (lv_at hl 5 rfl) ?_
  refine lv_bipush (v := 7) hx hb dL_law_370 (by decide) ?_
  refine lv_iload hx hb dL_law_372 (lv_at hl 1 rfl) ?_
  refine lv_imul hx hb dL_law_374 ?_
  refine lv_iconst (v := 5) hx hb dL_law_375 (by decide) ?_
  refine lv_iadd hx hb dL_law_376 ?_
  refine lv_iconst (v := 1) hx hb dL_law_377 (by decide) ?_
  refine lv_aload_n hx hb dL_law_378 rfl (lv_at hl 5 rfl) ?_
  refine lv_bipush (v := 7) hx hb dL_law_379 (by decide) ?_
  refine lv_iload hx hb dL_law_381 (lv_at hl 1 rfl) ?_
  refine lv_imul hx hb dL_law_383 ?_
  refine lv_iconst (v := 5) hx hb dL_law_384 (by decide) ?_
  refine lv_iadd hx hb dL_law_385 ?_
  refine x_iald (v := (f ((7 * fi) + 5))) X 0 ((7 * fi) + 5) hP rfl (z_add (z_mul rfl rfl) rfl) (by omega) (Nat.le_of_ble_eq_true rfl) rfl dL_law_386 ?_
  refine lv_isub hx hb dL_law_387 ?_
  refine x_iast (ws2 := [(bf, .inl (g.2 0, 28, .inl (upd f ((7 * fi) + 5) (1 - (f ((7 * fi) + 5)))))), (bk, .inl (g.2 0, 12, .inl k)), (bt, .inl (g.2 0, 8, .inl t))] ++ (CW g ad q)) X 0 ((7 * fi) + 5) hP hD hS rfl (z_add (z_mul rfl rfl) rfl) (by omega) (Nat.le_of_ble_eq_true rfl) rfl dL_law_388 (fun H locs hP hD hS => ?_)
  have G9 := l_bell h hfi
  refine lv_aload_n hx hb dL_law_389 rfl (lv_at hl 4 rfl) ?_
  refine lv_iload hx hb dL_law_390 (lv_at hl 1 rfl) ?_
  refine x_goI (wn := [(bf, .inl (g.2 0, 28, .inl (upd f ((7 * fi) + 5) (1 - (f ((7 * fi) + 5)))))), (bk, .inl (g.2 0, 12, .inl k)), (bt, .inl (g.2 0, 8, .inl t))] ++ (CW g ad ((kBell q (nI fi)).2))) (x_rV (As := [.int (nI fi)]) X (c_X5_bell l g ad q (nI fi) h.b hq _) yf_X5_bell yi_X5_bell wM_L_76 ⟨Nat.le_of_ble_eq_true rfl, Nat.le_of_ble_eq_true rfl⟩ hP hD List.perm_append_comm 0 rfl rfl hl rfl rfl (Nat.le_of_ble_eq_true rfl) dL_law_392 ⟨show cl ≤ 600000 from by omega, show sl ≤ 7302250 from by omega⟩) hP hD hS hA List.perm_append_comm (List.Perm.refl _) (fun H locs hP hD hS => ?_)
  refine lv_aload_n hx hb dL_law_395 rfl (lv_at hl 5 rfl) ?_
  refine lv_bipush (v := 7) hx hb dL_law_396 (by decide) ?_
  refine lv_iload hx hb dL_law_398 (lv_at hl 1 rfl) ?_
  refine lv_imul hx hb dL_law_400 ?_
  refine lv_iconst (v := 5) hx hb dL_law_401 (by decide) ?_
  refine lv_iadd hx hb dL_law_402 ?_
  refine x_iald (v := ((upd f ((7 * fi) + 5) (1 - (f ((7 * fi) + 5)))) ((7 * fi) + 5))) X 0 ((7 * fi) + 5) hP rfl (z_add (z_mul rfl rfl) rfl) (by omega) (Nat.le_of_ble_eq_true rfl) rfl dL_law_403 ?_
  refine lv_icmp_ne (tgt := 411) hx hb dL_law_404 (by decide) (fun q9 => absurd (show ((kBell q (nI fi)).1) = ((upd f ((7 * fi) + 5) (1 - (f ((7 * fi) + 5)))) ((7 * fi) + 5)) from (G9.1.trans (up_s _ _ _).symm)) q9) (fun c_1 => ?_)
  refine lv_iconst (v := 1) hx hb dL_law_407 (by decide) ?_
  refine lv_goto (tgt := 412) hx hb dL_law_408 (by decide) ?_
  refine lv_istore (lv' := [(8, .int 1), (7, .int (nI fi)), (6, .int hh), (5, .int (nI ei)), (1, .ref (ad 8 0)), (2, .ref bf), (3, .ref bk), (4, .ref bt), (0, .ref b)]) hx hb dL_law_412 hl (by decide) rfl (fun ls hl => ?_)
  refine lv_goto (tgt := 950) hx hb dL_law_414 (by decide) ?_
  exact nx _ _ _ _ _ _ _ _ G9.2.1 G9.2.2 (Nat.le_add_right _ _) ls _ _ hP hD hS (lv_sub hl [0, 3, 4, 5, 6, 7, 8] rfl)


set_option maxHeartbeats 4000000 in
set_option maxRecDepth 100000 in
/-- set -/
theorem lw_c0 {p : Program} {l : Launch} {e : Env} {s : State} {m : MethodId} {below : List Frame} {meth : Method} {c : Code} {g : wG} {t : Nat → Nat} {b L : Nat} {xs : Nat → Int32} {ad : Nat → Nat → Nat} {o : Nat → Nat} {i : Nat} (Z : LwX p s m c g t b L xs) (hi : i + 3 ≤ L) {q : CS} {r : MS} (h : Rel q r) (nx : ∀ q1 r1, Rel q1 r1 → LwG p l e s m below meth c g b ad o i 720 q1 r1) : LwG p l e s m below meth c g b ad o i 152 q r := by
  obtain ⟨X, hZ, -, -, -⟩ := id Z
  obtain ⟨⟨hx, hb, hml, hown, hts⟩, hK, hN⟩ := id X
  have hB := h.1.b
  have hlj := h.2.1.1
  have hm5 := h.2.1.2.1
  obtain ⟨cn, hc, hz⟩ := h.1.cn
  have hzm := cn_of h.1 hz
  have hln : cN q ≤ 60 := h.2.2.2.2.1
  have hy6 : mY r ≤ 60 := by rw [← h.2.2.2.1]; exact hln
  intro ls H locs hP hD hS hl
  refine lv_aload_n hx hb dL_law_152 rfl (lv_at hl 2 rfl) ?_
  refine lw_arg1 Z hi hS hl 1 0 rfl rfl dL_law_153 dL_law_154 dL_law_155 dL_law_156 dL_law_157 ?_
  refine lw_arg2 Z hi hS hl 1 0 rfl rfl dL_law_158 dL_law_159 dL_law_160 dL_law_161 dL_law_162 ?_
  refine x_goI (wn := CW g ad (kSet q (xs (i + 1)) (xs (i + 2))).2 ++ MW g o r) (x_rVS (As := [.int (xs (i + 1)), .int (xs (i + 2))]) X hZ (c_X5_set l g t ad q (xs (i + 1)) (xs (i + 2)) hB hlj _) yf_X5_set yi_X5_set wM_L_13 ⟨Nat.le_of_ble_eq_true rfl, Nat.le_of_ble_eq_true rfl⟩ hP hD hS LwX.A (List.Perm.refl _) 0 rfl rfl hl rfl rfl (Nat.le_of_ble_eq_true rfl) dL_law_163 ⟨Nat.le_of_ble_eq_true rfl, Nat.le_of_ble_eq_true rfl⟩) hP hD hS LwX.A (List.Perm.refl _) List.perm_append_comm (fun H locs hP hD hS => ?_)
  refine lv_aload_n hx hb dL_law_166 rfl (lv_at hl 3 rfl) ?_
  refine lw_arg1 Z hi hS hl 1 0 rfl rfl dL_law_167 dL_law_168 dL_law_169 dL_law_170 dL_law_171 ?_
  refine lw_arg2 Z hi hS hl 1 0 rfl rfl dL_law_172 dL_law_173 dL_law_174 dL_law_175 dL_law_176 ?_
  refine x_goI (wn := CW g ad (kSet q (xs (i + 1)) (xs (i + 2))).2 ++ MW g o (mSet r (xs (i + 1)) (xs (i + 2))).2) (x_rV (As := [.int (xs (i + 1)), .int (xs (i + 2))]) X (c_X6_set l g o r hm5 (xs (i + 1)) (xs (i + 2)) _) yf_X6_set yi_X6_set wM_L_17 ⟨Nat.le_of_ble_eq_true rfl, Nat.le_of_ble_eq_true rfl⟩ hP hD List.perm_append_comm 0 rfl rfl hl rfl rfl (Nat.le_of_ble_eq_true rfl) dL_law_177 ⟨Nat.le_of_ble_eq_true rfl, Nat.le_of_ble_eq_true rfl⟩) hP hD hS LwX.A List.perm_append_comm (List.Perm.refl _) (fun H locs hP hD hS => ?_)
  obtain ⟨hE, hR⟩ : (kSet q (xs (i + 1)) (xs (i + 2))).1 = (mSet r (xs (i + 1)) (xs (i + 2))).1 ∧ Rel (kSet q (xs (i + 1)) (xs (i + 2))).2 (mSet r (xs (i + 1)) (xs (i + 2))).2 := p_set h (xs (i + 1)) (xs (i + 2))
  refine lv_icmp_eq (tgt := 720) hx hb dL_law_180 (by decide) (fun _ => ?_) (fun c1 => absurd hE c1)
  exact nx _ _ hR ls _ _ hP hD hS hl
set_option maxHeartbeats 4000000 in
set_option maxRecDepth 100000 in
/-- setting -/
theorem lw_c1 {p : Program} {l : Launch} {e : Env} {s : State} {m : MethodId} {below : List Frame} {meth : Method} {c : Code} {g : wG} {t : Nat → Nat} {b L : Nat} {xs : Nat → Int32} {ad : Nat → Nat → Nat} {o : Nat → Nat} {i : Nat} (Z : LwX p s m c g t b L xs) (hi : i + 3 ≤ L) {q : CS} {r : MS} (h : Rel q r) (nx : ∀ q1 r1, Rel q1 r1 → LwG p l e s m below meth c g b ad o i 720 q1 r1) : LwG p l e s m below meth c g b ad o i 185 q r := by
  obtain ⟨X, hZ, -, -, -⟩ := id Z
  obtain ⟨⟨hx, hb, hml, hown, hts⟩, hK, hN⟩ := id X
  have hB := h.1.b
  have hlj := h.2.1.1
  have hm5 := h.2.1.2.1
  obtain ⟨cn, hc, hz⟩ := h.1.cn
  have hzm := cn_of h.1 hz
  have hln : cN q ≤ 60 := h.2.2.2.2.1
  have hy6 : mY r ≤ 60 := by rw [← h.2.2.2.1]; exact hln
  intro ls H locs hP hD hS hl
  refine lv_aload_n hx hb dL_law_185 rfl (lv_at hl 2 rfl) ?_
  refine lw_arg1 Z hi hS hl 1 0 rfl rfl dL_law_186 dL_law_187 dL_law_188 dL_law_189 dL_law_190 ?_
  refine x_goI (wn := CW g ad q ++ MW g o r) (x_rV (As := [.int (xs (i + 1))]) X (c_X5_setting l g ad q (xs (i + 1)) _) yf_X5_setting yi_X5_setting wM_L_18 ⟨Nat.le_of_ble_eq_true rfl, Nat.le_of_ble_eq_true rfl⟩ hP hD (List.Perm.refl _) 0 rfl rfl hl rfl rfl (Nat.le_of_ble_eq_true rfl) dL_law_191 ⟨Nat.le_of_ble_eq_true rfl, Nat.le_of_ble_eq_true rfl⟩) hP hD hS LwX.A (List.Perm.refl _) List.perm_append_comm (fun H locs hP hD hS => ?_)
  refine lv_aload_n hx hb dL_law_194 rfl (lv_at hl 3 rfl) ?_
  refine lw_arg1 Z hi hS hl 1 0 rfl rfl dL_law_195 dL_law_196 dL_law_197 dL_law_198 dL_law_199 ?_
  refine x_goI (wn := CW g ad q ++ MW g o r) (x_rV (As := [.int (xs (i + 1))]) X (c_X6_setting l g o r (xs (i + 1)) _) yf_X6_setting yi_X6_setting wM_L_22 ⟨Nat.le_of_ble_eq_true rfl, Nat.le_of_ble_eq_true rfl⟩ hP hD List.perm_append_comm 0 rfl rfl hl rfl rfl (Nat.le_of_ble_eq_true rfl) dL_law_200 ⟨Nat.le_of_ble_eq_true rfl, Nat.le_of_ble_eq_true rfl⟩) hP hD hS LwX.A List.perm_append_comm (List.Perm.refl _) (fun H locs hP hD hS => ?_)
  have hE : (kSetting q (xs (i + 1))) = (mSetting r (xs (i + 1))) := p_setting h (xs (i + 1))
  refine lv_icmp_eq (tgt := 720) hx hb dL_law_203 (by decide) (fun _ => ?_) (fun c1 => absurd hE c1)
  exact nx _ _ h ls _ _ hP hD hS hl
set_option maxHeartbeats 4000000 in
set_option maxRecDepth 100000 in
/-- gear -/
theorem lw_c2 {p : Program} {l : Launch} {e : Env} {s : State} {m : MethodId} {below : List Frame} {meth : Method} {c : Code} {g : wG} {t : Nat → Nat} {b L : Nat} {xs : Nat → Int32} {ad : Nat → Nat → Nat} {o : Nat → Nat} {i : Nat} (Z : LwX p s m c g t b L xs) (hi : i + 3 ≤ L) {q : CS} {r : MS} (h : Rel q r) (nx : ∀ q1 r1, Rel q1 r1 → LwG p l e s m below meth c g b ad o i 720 q1 r1) : LwG p l e s m below meth c g b ad o i 208 q r := by
  obtain ⟨X, hZ, -, -, -⟩ := id Z
  obtain ⟨⟨hx, hb, hml, hown, hts⟩, hK, hN⟩ := id X
  have hB := h.1.b
  have hlj := h.2.1.1
  have hm5 := h.2.1.2.1
  obtain ⟨cn, hc, hz⟩ := h.1.cn
  have hzm := cn_of h.1 hz
  have hln : cN q ≤ 60 := h.2.2.2.2.1
  have hy6 : mY r ≤ 60 := by rw [← h.2.2.2.1]; exact hln
  intro ls H locs hP hD hS hl
  refine lv_aload_n hx hb dL_law_208 rfl (lv_at hl 2 rfl) ?_
  refine lw_arg1 Z hi hS hl 1 0 rfl rfl dL_law_209 dL_law_210 dL_law_211 dL_law_212 dL_law_213 ?_
  refine lw_arg2 Z hi hS hl 1 0 rfl rfl dL_law_214 dL_law_215 dL_law_216 dL_law_217 dL_law_218 ?_
  refine x_goI (wn := CW g ad (kGear q (xs (i + 1)) (xs (i + 2))).2 ++ MW g o r) (x_rV (As := [.int (xs (i + 1)), .int (xs (i + 2))]) X (c_X5_gear l g ad q (xs (i + 1)) (xs (i + 2)) hB hlj _) yf_X5_gear yi_X5_gear wM_L_23 ⟨Nat.le_of_ble_eq_true rfl, Nat.le_of_ble_eq_true rfl⟩ hP hD (List.Perm.refl _) 0 rfl rfl hl rfl rfl (Nat.le_of_ble_eq_true rfl) dL_law_219 ⟨Nat.le_of_ble_eq_true rfl, Nat.le_of_ble_eq_true rfl⟩) hP hD hS LwX.A (List.Perm.refl _) List.perm_append_comm (fun H locs hP hD hS => ?_)
  refine lv_aload_n hx hb dL_law_222 rfl (lv_at hl 3 rfl) ?_
  refine lw_arg1 Z hi hS hl 1 0 rfl rfl dL_law_223 dL_law_224 dL_law_225 dL_law_226 dL_law_227 ?_
  refine lw_arg2 Z hi hS hl 1 0 rfl rfl dL_law_228 dL_law_229 dL_law_230 dL_law_231 dL_law_232 ?_
  refine x_goI (wn := CW g ad (kGear q (xs (i + 1)) (xs (i + 2))).2 ++ MW g o (mGear r (xs (i + 1)) (xs (i + 2))).2) (x_rV (As := [.int (xs (i + 1)), .int (xs (i + 2))]) X (c_X6_gear l g o r hm5 (xs (i + 1)) (xs (i + 2)) _) yf_X6_gear yi_X6_gear wM_L_26 ⟨Nat.le_of_ble_eq_true rfl, Nat.le_of_ble_eq_true rfl⟩ hP hD List.perm_append_comm 0 rfl rfl hl rfl rfl (Nat.le_of_ble_eq_true rfl) dL_law_233 ⟨Nat.le_of_ble_eq_true rfl, Nat.le_of_ble_eq_true rfl⟩) hP hD hS LwX.A List.perm_append_comm (List.Perm.refl _) (fun H locs hP hD hS => ?_)
  obtain ⟨hE, hR⟩ : (kGear q (xs (i + 1)) (xs (i + 2))).1 = (mGear r (xs (i + 1)) (xs (i + 2))).1 ∧ Rel (kGear q (xs (i + 1)) (xs (i + 2))).2 (mGear r (xs (i + 1)) (xs (i + 2))).2 := p_gear h (xs (i + 1)) (xs (i + 2))
  refine lv_icmp_eq (tgt := 720) hx hb dL_law_236 (by decide) (fun _ => ?_) (fun c1 => absurd hE c1)
  exact nx _ _ hR ls _ _ hP hD hS hl
set_option maxHeartbeats 4000000 in
set_option maxRecDepth 100000 in
/-- oil -/
theorem lw_c3 {p : Program} {l : Launch} {e : Env} {s : State} {m : MethodId} {below : List Frame} {meth : Method} {c : Code} {g : wG} {t : Nat → Nat} {b L : Nat} {xs : Nat → Int32} {ad : Nat → Nat → Nat} {o : Nat → Nat} {i : Nat} (Z : LwX p s m c g t b L xs) (hi : i + 3 ≤ L) {q : CS} {r : MS} (h : Rel q r) (nx : ∀ q1 r1, Rel q1 r1 → LwG p l e s m below meth c g b ad o i 720 q1 r1) : LwG p l e s m below meth c g b ad o i 241 q r := by
  obtain ⟨X, hZ, -, -, -⟩ := id Z
  obtain ⟨⟨hx, hb, hml, hown, hts⟩, hK, hN⟩ := id X
  have hB := h.1.b
  have hlj := h.2.1.1
  have hm5 := h.2.1.2.1
  obtain ⟨cn, hc, hz⟩ := h.1.cn
  have hzm := cn_of h.1 hz
  have hln : cN q ≤ 60 := h.2.2.2.2.1
  have hy6 : mY r ≤ 60 := by rw [← h.2.2.2.1]; exact hln
  intro ls H locs hP hD hS hl
  refine lv_aload_n hx hb dL_law_241 rfl (lv_at hl 2 rfl) ?_
  refine lw_arg1 Z hi hS hl 1 0 rfl rfl dL_law_242 dL_law_243 dL_law_244 dL_law_245 dL_law_246 ?_
  refine x_goI (wn := CW g ad (kOil q (xs (i + 1))).2 ++ MW g o r) (x_rV (As := [.int (xs (i + 1))]) X (c_X5_oil l g ad q (xs (i + 1)) hB hlj _) yf_X5_oil yi_X5_oil wM_L_27 ⟨Nat.le_of_ble_eq_true rfl, Nat.le_of_ble_eq_true rfl⟩ hP hD (List.Perm.refl _) 0 rfl rfl hl rfl rfl (Nat.le_of_ble_eq_true rfl) dL_law_247 ⟨Nat.le_of_ble_eq_true rfl, Nat.le_of_ble_eq_true rfl⟩) hP hD hS LwX.A (List.Perm.refl _) List.perm_append_comm (fun H locs hP hD hS => ?_)
  refine lv_aload_n hx hb dL_law_250 rfl (lv_at hl 3 rfl) ?_
  refine lw_arg1 Z hi hS hl 1 0 rfl rfl dL_law_251 dL_law_252 dL_law_253 dL_law_254 dL_law_255 ?_
  refine x_goI (wn := CW g ad (kOil q (xs (i + 1))).2 ++ MW g o (mOil r (xs (i + 1))).2) (x_rV (As := [.int (xs (i + 1))]) X (c_X6_oil l g o r hm5 (xs (i + 1)) _) yf_X6_oil yi_X6_oil wM_L_30 ⟨Nat.le_of_ble_eq_true rfl, Nat.le_of_ble_eq_true rfl⟩ hP hD List.perm_append_comm 0 rfl rfl hl rfl rfl (Nat.le_of_ble_eq_true rfl) dL_law_256 ⟨Nat.le_of_ble_eq_true rfl, Nat.le_of_ble_eq_true rfl⟩) hP hD hS LwX.A List.perm_append_comm (List.Perm.refl _) (fun H locs hP hD hS => ?_)
  obtain ⟨hE, hR⟩ : (kOil q (xs (i + 1))).1 = (mOil r (xs (i + 1))).1 ∧ Rel (kOil q (xs (i + 1))).2 (mOil r (xs (i + 1))).2 := p_oil h (xs (i + 1))
  refine lv_icmp_eq (tgt := 720) hx hb dL_law_259 (by decide) (fun _ => ?_) (fun c1 => absurd hE c1)
  exact nx _ _ hR ls _ _ hP hD hS hl
set_option maxHeartbeats 4000000 in
set_option maxRecDepth 100000 in
/-- dial -/
theorem lw_c4 {p : Program} {l : Launch} {e : Env} {s : State} {m : MethodId} {below : List Frame} {meth : Method} {c : Code} {g : wG} {t : Nat → Nat} {b L : Nat} {xs : Nat → Int32} {ad : Nat → Nat → Nat} {o : Nat → Nat} {i : Nat} (Z : LwX p s m c g t b L xs) (hi : i + 3 ≤ L) {q : CS} {r : MS} (h : Rel q r) (nx : ∀ q1 r1, Rel q1 r1 → LwG p l e s m below meth c g b ad o i 720 q1 r1) : LwG p l e s m below meth c g b ad o i 264 q r := by
  obtain ⟨X, hZ, -, -, -⟩ := id Z
  obtain ⟨⟨hx, hb, hml, hown, hts⟩, hK, hN⟩ := id X
  have hB := h.1.b
  have hlj := h.2.1.1
  have hm5 := h.2.1.2.1
  obtain ⟨cn, hc, hz⟩ := h.1.cn
  have hzm := cn_of h.1 hz
  have hln : cN q ≤ 60 := h.2.2.2.2.1
  have hy6 : mY r ≤ 60 := by rw [← h.2.2.2.1]; exact hln
  intro ls H locs hP hD hS hl
  refine lv_aload_n hx hb dL_law_264 rfl (lv_at hl 2 rfl) ?_
  refine lw_arg1 Z hi hS hl 1 0 rfl rfl dL_law_265 dL_law_266 dL_law_267 dL_law_268 dL_law_269 ?_
  refine lw_arg2 Z hi hS hl 1 0 rfl rfl dL_law_270 dL_law_271 dL_law_272 dL_law_273 dL_law_274 ?_
  refine x_goI (wn := CW g ad (kDial q (xs (i + 1)) (xs (i + 2))).2 ++ MW g o r) (x_rV (As := [.int (xs (i + 1)), .int (xs (i + 2))]) X (c_X5_dial l g ad q (xs (i + 1)) (xs (i + 2)) hB hlj _) yf_X5_dial yi_X5_dial wM_L_31 ⟨Nat.le_of_ble_eq_true rfl, Nat.le_of_ble_eq_true rfl⟩ hP hD (List.Perm.refl _) 0 rfl rfl hl rfl rfl (Nat.le_of_ble_eq_true rfl) dL_law_275 ⟨Nat.le_of_ble_eq_true rfl, Nat.le_of_ble_eq_true rfl⟩) hP hD hS LwX.A (List.Perm.refl _) List.perm_append_comm (fun H locs hP hD hS => ?_)
  refine lv_aload_n hx hb dL_law_278 rfl (lv_at hl 3 rfl) ?_
  refine lw_arg1 Z hi hS hl 1 0 rfl rfl dL_law_279 dL_law_280 dL_law_281 dL_law_282 dL_law_283 ?_
  refine lw_arg2 Z hi hS hl 1 0 rfl rfl dL_law_284 dL_law_285 dL_law_286 dL_law_287 dL_law_288 ?_
  refine x_goI (wn := CW g ad (kDial q (xs (i + 1)) (xs (i + 2))).2 ++ MW g o (mDial r (xs (i + 1)) (xs (i + 2))).2) (x_rV (As := [.int (xs (i + 1)), .int (xs (i + 2))]) X (c_X6_dial l g o r hm5 (xs (i + 1)) (xs (i + 2)) _) yf_X6_dial yi_X6_dial wM_L_34 ⟨Nat.le_of_ble_eq_true rfl, Nat.le_of_ble_eq_true rfl⟩ hP hD List.perm_append_comm 0 rfl rfl hl rfl rfl (Nat.le_of_ble_eq_true rfl) dL_law_289 ⟨Nat.le_of_ble_eq_true rfl, Nat.le_of_ble_eq_true rfl⟩) hP hD hS LwX.A List.perm_append_comm (List.Perm.refl _) (fun H locs hP hD hS => ?_)
  obtain ⟨hE, hR⟩ : (kDial q (xs (i + 1)) (xs (i + 2))).1 = (mDial r (xs (i + 1)) (xs (i + 2))).1 ∧ Rel (kDial q (xs (i + 1)) (xs (i + 2))).2 (mDial r (xs (i + 1)) (xs (i + 2))).2 := p_dial h (xs (i + 1)) (xs (i + 2))
  refine lv_icmp_eq (tgt := 720) hx hb dL_law_292 (by decide) (fun _ => ?_) (fun c1 => absurd hE c1)
  exact nx _ _ hR ls _ _ hP hD hS hl
set_option maxHeartbeats 4000000 in
set_option maxRecDepth 100000 in
/-- bell -/
theorem lw_c5 {p : Program} {l : Launch} {e : Env} {s : State} {m : MethodId} {below : List Frame} {meth : Method} {c : Code} {g : wG} {t : Nat → Nat} {b L : Nat} {xs : Nat → Int32} {ad : Nat → Nat → Nat} {o : Nat → Nat} {i : Nat} (Z : LwX p s m c g t b L xs) (hi : i + 3 ≤ L) {q : CS} {r : MS} (h : Rel q r) (nx : ∀ q1 r1, Rel q1 r1 → LwG p l e s m below meth c g b ad o i 720 q1 r1) : LwG p l e s m below meth c g b ad o i 297 q r := by
  obtain ⟨X, hZ, -, -, -⟩ := id Z
  obtain ⟨⟨hx, hb, hml, hown, hts⟩, hK, hN⟩ := id X
  have hB := h.1.b
  have hlj := h.2.1.1
  have hm5 := h.2.1.2.1
  obtain ⟨cn, hc, hz⟩ := h.1.cn
  have hzm := cn_of h.1 hz
  have hln : cN q ≤ 60 := h.2.2.2.2.1
  have hy6 : mY r ≤ 60 := by rw [← h.2.2.2.1]; exact hln
  intro ls H locs hP hD hS hl
  refine lv_aload_n hx hb dL_law_297 rfl (lv_at hl 2 rfl) ?_
  refine lw_arg1 Z hi hS hl 1 0 rfl rfl dL_law_298 dL_law_299 dL_law_300 dL_law_301 dL_law_302 ?_
  refine x_goI (wn := CW g ad (kBell q (xs (i + 1))).2 ++ MW g o r) (x_rV (As := [.int (xs (i + 1))]) X (c_X5_bell l g ad q (xs (i + 1)) hB hlj _) yf_X5_bell yi_X5_bell wM_L_35 ⟨Nat.le_of_ble_eq_true rfl, Nat.le_of_ble_eq_true rfl⟩ hP hD (List.Perm.refl _) 0 rfl rfl hl rfl rfl (Nat.le_of_ble_eq_true rfl) dL_law_303 ⟨Nat.le_of_ble_eq_true rfl, Nat.le_of_ble_eq_true rfl⟩) hP hD hS LwX.A (List.Perm.refl _) List.perm_append_comm (fun H locs hP hD hS => ?_)
  refine lv_aload_n hx hb dL_law_306 rfl (lv_at hl 3 rfl) ?_
  refine lw_arg1 Z hi hS hl 1 0 rfl rfl dL_law_307 dL_law_308 dL_law_309 dL_law_310 dL_law_311 ?_
  refine x_goI (wn := CW g ad (kBell q (xs (i + 1))).2 ++ MW g o (mBell r (xs (i + 1))).2) (x_rV (As := [.int (xs (i + 1))]) X (c_X6_bell l g o r hm5 (xs (i + 1)) _) yf_X6_bell yi_X6_bell wM_L_38 ⟨Nat.le_of_ble_eq_true rfl, Nat.le_of_ble_eq_true rfl⟩ hP hD List.perm_append_comm 0 rfl rfl hl rfl rfl (Nat.le_of_ble_eq_true rfl) dL_law_312 ⟨Nat.le_of_ble_eq_true rfl, Nat.le_of_ble_eq_true rfl⟩) hP hD hS LwX.A List.perm_append_comm (List.Perm.refl _) (fun H locs hP hD hS => ?_)
  obtain ⟨hE, hR⟩ : (kBell q (xs (i + 1))).1 = (mBell r (xs (i + 1))).1 ∧ Rel (kBell q (xs (i + 1))).2 (mBell r (xs (i + 1))).2 := p_bell h (xs (i + 1))
  refine lv_icmp_eq (tgt := 720) hx hb dL_law_315 (by decide) (fun _ => ?_) (fun c1 => absurd hE c1)
  exact nx _ _ hR ls _ _ hP hD hS hl
set_option maxHeartbeats 4000000 in
set_option maxRecDepth 100000 in
/-- pass -/
theorem lw_c6 {p : Program} {l : Launch} {e : Env} {s : State} {m : MethodId} {below : List Frame} {meth : Method} {c : Code} {g : wG} {t : Nat → Nat} {b L : Nat} {xs : Nat → Int32} {ad : Nat → Nat → Nat} {o : Nat → Nat} {i : Nat} (Z : LwX p s m c g t b L xs) (hi : i + 3 ≤ L) {q : CS} {r : MS} (h : Rel q r) (nx : ∀ q1 r1, Rel q1 r1 → LwG p l e s m below meth c g b ad o i 720 q1 r1) : LwG p l e s m below meth c g b ad o i 320 q r := by
  obtain ⟨X, hZ, -, -, -⟩ := id Z
  obtain ⟨⟨hx, hb, hml, hown, hts⟩, hK, hN⟩ := id X
  have hB := h.1.b
  have hlj := h.2.1.1
  have hm5 := h.2.1.2.1
  obtain ⟨cn, hc, hz⟩ := h.1.cn
  have hzm := cn_of h.1 hz
  have hln : cN q ≤ 60 := h.2.2.2.2.1
  have hy6 : mY r ≤ 60 := by rw [← h.2.2.2.1]; exact hln
  intro ls H locs hP hD hS hl
  refine lv_aload_n hx hb dL_law_320 rfl (lv_at hl 2 rfl) ?_
  refine lw_arg1 Z hi hS hl 1 0 rfl rfl dL_law_321 dL_law_322 dL_law_323 dL_law_324 dL_law_325 ?_
  refine x_goI (wn := CW g ad (kPass q cn (xs (i + 1))).2 ++ MW g o r) (x_rV (As := [.int (xs (i + 1))]) X (c_X5_pass l g ad q (xs (i + 1)) hB hlj cn hc hz _) yf_X5_pass yi_X5_pass wM_L_39 ⟨Nat.le_of_ble_eq_true rfl, Nat.le_of_ble_eq_true rfl⟩ hP hD (List.Perm.refl _) 0 rfl rfl hl rfl rfl (Nat.le_of_ble_eq_true rfl) dL_law_326 ⟨Nat.le_of_ble_eq_true rfl, Nat.le_of_ble_eq_true rfl⟩) hP hD hS LwX.A (List.Perm.refl _) List.perm_append_comm (fun H locs hP hD hS => ?_)
  refine lv_aload_n hx hb dL_law_329 rfl (lv_at hl 3 rfl) ?_
  refine lw_arg1 Z hi hS hl 1 0 rfl rfl dL_law_330 dL_law_331 dL_law_332 dL_law_333 dL_law_334 ?_
  refine x_goI (wn := CW g ad (kPass q cn (xs (i + 1))).2 ++ MW g o (mPass r cn (xs (i + 1))).2) (x_rV (As := [.int (xs (i + 1))]) X (c_X6_pass l g o r hm5 cn hc hzm (xs (i + 1)) _) yf_X6_pass yi_X6_pass wM_L_42 ⟨Nat.le_of_ble_eq_true rfl, Nat.le_of_ble_eq_true rfl⟩ hP hD List.perm_append_comm 0 rfl rfl hl rfl rfl (Nat.le_of_ble_eq_true rfl) dL_law_335 ⟨Nat.le_of_ble_eq_true rfl, Nat.le_of_ble_eq_true rfl⟩) hP hD hS LwX.A List.perm_append_comm (List.Perm.refl _) (fun H locs hP hD hS => ?_)
  obtain ⟨hE, hR⟩ : (kPass q cn (xs (i + 1))).1 = (mPass r cn (xs (i + 1))).1 ∧ Rel (kPass q cn (xs (i + 1))).2 (mPass r cn (xs (i + 1))).2 := p_pass h hz hc (xs (i + 1))
  refine lv_icmp_eq (tgt := 720) hx hb dL_law_338 (by decide) (fun _ => ?_) (fun c1 => absurd hE c1)
  exact nx _ _ hR ls _ _ hP hD hS hl
set_option maxHeartbeats 4000000 in
set_option maxRecDepth 100000 in
/-- hire -/
theorem lw_c7 {p : Program} {l : Launch} {e : Env} {s : State} {m : MethodId} {below : List Frame} {meth : Method} {c : Code} {g : wG} {t : Nat → Nat} {b L : Nat} {xs : Nat → Int32} {ad : Nat → Nat → Nat} {o : Nat → Nat} {i : Nat} (Z : LwX p s m c g t b L xs) (hi : i + 3 ≤ L) {q : CS} {r : MS} (h : Rel q r) (nx : ∀ q1 r1, Rel q1 r1 → LwG p l e s m below meth c g b ad o i 720 q1 r1) : LwG p l e s m below meth c g b ad o i 343 q r := by
  obtain ⟨X, hZ, -, -, -⟩ := id Z
  obtain ⟨⟨hx, hb, hml, hown, hts⟩, hK, hN⟩ := id X
  have hB := h.1.b
  have hlj := h.2.1.1
  have hm5 := h.2.1.2.1
  obtain ⟨cn, hc, hz⟩ := h.1.cn
  have hzm := cn_of h.1 hz
  have hln : cN q ≤ 60 := h.2.2.2.2.1
  have hy6 : mY r ≤ 60 := by rw [← h.2.2.2.1]; exact hln
  intro ls H locs hP hD hS hl
  refine lv_aload_n hx hb dL_law_343 rfl (lv_at hl 2 rfl) ?_
  refine lw_arg1 Z hi hS hl 1 0 rfl rfl dL_law_344 dL_law_345 dL_law_346 dL_law_347 dL_law_348 ?_
  refine lw_arg2 Z hi hS hl 1 0 rfl rfl dL_law_349 dL_law_350 dL_law_351 dL_law_352 dL_law_353 ?_
  refine x_goI (wn := CW g ad (kHire q cn (xs (i + 1)) (xs (i + 2))).2 ++ MW g o r) (x_rV (As := [.int (xs (i + 1)), .int (xs (i + 2))]) X (c_X5_hire l g ad q (xs (i + 1)) (xs (i + 2)) hB hlj cn hc hz _) yf_X5_hire yi_X5_hire wM_L_43 ⟨Nat.le_of_ble_eq_true rfl, Nat.le_of_ble_eq_true rfl⟩ hP hD (List.Perm.refl _) 0 rfl rfl hl rfl rfl (Nat.le_of_ble_eq_true rfl) dL_law_354 ⟨Nat.le_of_ble_eq_true rfl, Nat.le_of_ble_eq_true rfl⟩) hP hD hS LwX.A (List.Perm.refl _) List.perm_append_comm (fun H locs hP hD hS => ?_)
  refine lv_aload_n hx hb dL_law_357 rfl (lv_at hl 3 rfl) ?_
  refine lw_arg1 Z hi hS hl 1 0 rfl rfl dL_law_358 dL_law_359 dL_law_360 dL_law_361 dL_law_362 ?_
  refine lw_arg2 Z hi hS hl 1 0 rfl rfl dL_law_363 dL_law_364 dL_law_365 dL_law_366 dL_law_367 ?_
  refine x_goI (wn := CW g ad (kHire q cn (xs (i + 1)) (xs (i + 2))).2 ++ MW g o (mHire r cn (xs (i + 1)) (xs (i + 2))).2) (x_rV (As := [.int (xs (i + 1)), .int (xs (i + 2))]) X (c_X6_hire l g o r hm5 cn hc hzm (xs (i + 1)) (xs (i + 2)) _) yf_X6_hire yi_X6_hire wM_L_46 ⟨Nat.le_of_ble_eq_true rfl, Nat.le_of_ble_eq_true rfl⟩ hP hD List.perm_append_comm 0 rfl rfl hl rfl rfl (Nat.le_of_ble_eq_true rfl) dL_law_368 ⟨Nat.le_of_ble_eq_true rfl, Nat.le_of_ble_eq_true rfl⟩) hP hD hS LwX.A List.perm_append_comm (List.Perm.refl _) (fun H locs hP hD hS => ?_)
  obtain ⟨hE, hR⟩ : (kHire q cn (xs (i + 1)) (xs (i + 2))).1 = (mHire r cn (xs (i + 1)) (xs (i + 2))).1 ∧ Rel (kHire q cn (xs (i + 1)) (xs (i + 2))).2 (mHire r cn (xs (i + 1)) (xs (i + 2))).2 := p_hire h hz hc (xs (i + 1)) (xs (i + 2))
  refine lv_icmp_eq (tgt := 720) hx hb dL_law_371 (by decide) (fun _ => ?_) (fun c1 => absurd hE c1)
  exact nx _ _ hR ls _ _ hP hD hS hl
set_option maxHeartbeats 4000000 in
set_option maxRecDepth 100000 in
/-- dismiss -/
theorem lw_c8 {p : Program} {l : Launch} {e : Env} {s : State} {m : MethodId} {below : List Frame} {meth : Method} {c : Code} {g : wG} {t : Nat → Nat} {b L : Nat} {xs : Nat → Int32} {ad : Nat → Nat → Nat} {o : Nat → Nat} {i : Nat} (Z : LwX p s m c g t b L xs) (hi : i + 3 ≤ L) {q : CS} {r : MS} (h : Rel q r) (nx : ∀ q1 r1, Rel q1 r1 → LwG p l e s m below meth c g b ad o i 720 q1 r1) : LwG p l e s m below meth c g b ad o i 376 q r := by
  obtain ⟨X, hZ, -, -, -⟩ := id Z
  obtain ⟨⟨hx, hb, hml, hown, hts⟩, hK, hN⟩ := id X
  have hB := h.1.b
  have hlj := h.2.1.1
  have hm5 := h.2.1.2.1
  obtain ⟨cn, hc, hz⟩ := h.1.cn
  have hzm := cn_of h.1 hz
  have hln : cN q ≤ 60 := h.2.2.2.2.1
  have hy6 : mY r ≤ 60 := by rw [← h.2.2.2.1]; exact hln
  intro ls H locs hP hD hS hl
  refine lv_aload_n hx hb dL_law_376 rfl (lv_at hl 2 rfl) ?_
  refine lw_arg1 Z hi hS hl 1 0 rfl rfl dL_law_377 dL_law_378 dL_law_379 dL_law_380 dL_law_381 ?_
  refine x_goI (wn := CW g ad (kDismiss q cn (xs (i + 1))).2 ++ MW g o r) (x_rV (As := [.int (xs (i + 1))]) X (c_X5_dismiss l g ad q (xs (i + 1)) hB hlj cn hc hz _) yf_X5_dismiss yi_X5_dismiss wM_L_47 ⟨Nat.le_of_ble_eq_true rfl, Nat.le_of_ble_eq_true rfl⟩ hP hD (List.Perm.refl _) 0 rfl rfl hl rfl rfl (Nat.le_of_ble_eq_true rfl) dL_law_382 ⟨Nat.le_of_ble_eq_true rfl, Nat.le_of_ble_eq_true rfl⟩) hP hD hS LwX.A (List.Perm.refl _) List.perm_append_comm (fun H locs hP hD hS => ?_)
  refine lv_aload_n hx hb dL_law_385 rfl (lv_at hl 3 rfl) ?_
  refine lw_arg1 Z hi hS hl 1 0 rfl rfl dL_law_386 dL_law_387 dL_law_388 dL_law_389 dL_law_390 ?_
  refine x_goI (wn := CW g ad (kDismiss q cn (xs (i + 1))).2 ++ MW g o (mDismiss r cn (xs (i + 1))).2) (x_rV (As := [.int (xs (i + 1))]) X (c_X6_dismiss l g o r hm5 cn hc hzm (xs (i + 1)) _) yf_X6_dismiss yi_X6_dismiss wM_L_50 ⟨Nat.le_of_ble_eq_true rfl, Nat.le_of_ble_eq_true rfl⟩ hP hD List.perm_append_comm 0 rfl rfl hl rfl rfl (Nat.le_of_ble_eq_true rfl) dL_law_391 ⟨Nat.le_of_ble_eq_true rfl, Nat.le_of_ble_eq_true rfl⟩) hP hD hS LwX.A List.perm_append_comm (List.Perm.refl _) (fun H locs hP hD hS => ?_)
  obtain ⟨hE, hR⟩ : (kDismiss q cn (xs (i + 1))).1 = (mDismiss r cn (xs (i + 1))).1 ∧ Rel (kDismiss q cn (xs (i + 1))).2 (mDismiss r cn (xs (i + 1))).2 := p_dismiss h hz hc (xs (i + 1))
  refine lv_icmp_eq (tgt := 720) hx hb dL_law_394 (by decide) (fun _ => ?_) (fun c1 => absurd hE c1)
  exact nx _ _ hR ls _ _ hP hD hS hl
set_option maxHeartbeats 4000000 in
set_option maxRecDepth 100000 in
/-- reset -/
theorem lw_c9 {p : Program} {l : Launch} {e : Env} {s : State} {m : MethodId} {below : List Frame} {meth : Method} {c : Code} {g : wG} {t : Nat → Nat} {b L : Nat} {xs : Nat → Int32} {ad : Nat → Nat → Nat} {o : Nat → Nat} {i : Nat} (Z : LwX p s m c g t b L xs) (hi : i + 3 ≤ L) {q : CS} {r : MS} (h : Rel q r) (nx : ∀ q1 r1, Rel q1 r1 → LwG p l e s m below meth c g b ad o i 720 q1 r1) : LwG p l e s m below meth c g b ad o i 399 q r := by
  obtain ⟨X, hZ, -, -, -⟩ := id Z
  obtain ⟨⟨hx, hb, hml, hown, hts⟩, hK, hN⟩ := id X
  have hB := h.1.b
  have hlj := h.2.1.1
  have hm5 := h.2.1.2.1
  obtain ⟨cn, hc, hz⟩ := h.1.cn
  have hzm := cn_of h.1 hz
  have hln : cN q ≤ 60 := h.2.2.2.2.1
  have hy6 : mY r ≤ 60 := by rw [← h.2.2.2.1]; exact hln
  intro ls H locs hP hD hS hl
  refine lv_aload_n hx hb dL_law_399 rfl (lv_at hl 2 rfl) ?_
  refine x_goI (wn := CW g ad (kReset q cn).2 ++ MW g o r) (x_rV (As := []) X (c_X5_reset l g ad q hB hlj cn hc hz _) yf_X5_reset yi_X5_reset wM_L_51 ⟨Nat.le_of_ble_eq_true rfl, Nat.le_of_ble_eq_true rfl⟩ hP hD (List.Perm.refl _) 0 rfl rfl hl rfl rfl (Nat.le_of_ble_eq_true rfl) dL_law_400 ⟨Nat.le_of_ble_eq_true rfl, Nat.le_of_ble_eq_true rfl⟩) hP hD hS LwX.A (List.Perm.refl _) List.perm_append_comm (fun H locs hP hD hS => ?_)
  refine lv_aload_n hx hb dL_law_403 rfl (lv_at hl 3 rfl) ?_
  refine x_goI (wn := CW g ad (kReset q cn).2 ++ MW g o (mReset r cn).2) (x_rV (As := []) X (c_X6_reset l g o r hm5 cn hc hzm _) yf_X6_reset yi_X6_reset wM_L_55 ⟨Nat.le_of_ble_eq_true rfl, Nat.le_of_ble_eq_true rfl⟩ hP hD List.perm_append_comm 0 rfl rfl hl rfl rfl (Nat.le_of_ble_eq_true rfl) dL_law_404 ⟨Nat.le_of_ble_eq_true rfl, Nat.le_of_ble_eq_true rfl⟩) hP hD hS LwX.A List.perm_append_comm (List.Perm.refl _) (fun H locs hP hD hS => ?_)
  obtain ⟨hE, hR⟩ : (kReset q cn).1 = (mReset r cn).1 ∧ Rel (kReset q cn).2 (mReset r cn).2 := p_reset h hz hc
  refine lv_icmp_eq (tgt := 720) hx hb dL_law_407 (by decide) (fun _ => ?_) (fun c1 => absurd hE c1)
  exact nx _ _ hR ls _ _ hP hD hS hl
set_option maxHeartbeats 4000000 in
set_option maxRecDepth 100000 in
/-- keeper -/
theorem lw_c10 {p : Program} {l : Launch} {e : Env} {s : State} {m : MethodId} {below : List Frame} {meth : Method} {c : Code} {g : wG} {t : Nat → Nat} {b L : Nat} {xs : Nat → Int32} {ad : Nat → Nat → Nat} {o : Nat → Nat} {i : Nat} (Z : LwX p s m c g t b L xs) (hi : i + 3 ≤ L) {q : CS} {r : MS} (h : Rel q r) (nx : ∀ q1 r1, Rel q1 r1 → LwG p l e s m below meth c g b ad o i 720 q1 r1) : LwG p l e s m below meth c g b ad o i 412 q r := by
  obtain ⟨X, hZ, -, -, -⟩ := id Z
  obtain ⟨⟨hx, hb, hml, hown, hts⟩, hK, hN⟩ := id X
  have hB := h.1.b
  have hlj := h.2.1.1
  have hm5 := h.2.1.2.1
  obtain ⟨cn, hc, hz⟩ := h.1.cn
  have hzm := cn_of h.1 hz
  have hln : cN q ≤ 60 := h.2.2.2.2.1
  have hy6 : mY r ≤ 60 := by rw [← h.2.2.2.1]; exact hln
  intro ls H locs hP hD hS hl
  refine lv_aload_n hx hb dL_law_412 rfl (lv_at hl 2 rfl) ?_
  refine lw_arg1 Z hi hS hl 1 0 rfl rfl dL_law_413 dL_law_414 dL_law_415 dL_law_416 dL_law_417 ?_
  refine lw_arg2 Z hi hS hl 1 0 rfl rfl dL_law_418 dL_law_419 dL_law_420 dL_law_421 dL_law_422 ?_
  refine x_goI (wn := CW g ad q ++ MW g o r) (x_rV (As := [.int (xs (i + 1)), .int (xs (i + 2))]) X (c_X5_keeper l g ad q (xs (i + 1)) (xs (i + 2)) cn hc hz _) yf_X5_keeper yi_X5_keeper wM_L_56 ⟨Nat.le_of_ble_eq_true rfl, Nat.le_of_ble_eq_true rfl⟩ hP hD (List.Perm.refl _) 0 rfl rfl hl rfl rfl (Nat.le_of_ble_eq_true rfl) dL_law_423 ⟨Nat.le_of_ble_eq_true rfl, Nat.le_of_ble_eq_true rfl⟩) hP hD hS LwX.A (List.Perm.refl _) List.perm_append_comm (fun H locs hP hD hS => ?_)
  refine lv_aload_n hx hb dL_law_426 rfl (lv_at hl 3 rfl) ?_
  refine lw_arg1 Z hi hS hl 1 0 rfl rfl dL_law_427 dL_law_428 dL_law_429 dL_law_430 dL_law_431 ?_
  refine lw_arg2 Z hi hS hl 1 0 rfl rfl dL_law_432 dL_law_433 dL_law_434 dL_law_435 dL_law_436 ?_
  refine x_goI (wn := CW g ad q ++ MW g o r) (x_rV (As := [.int (xs (i + 1)), .int (xs (i + 2))]) X (c_X6_keeper l g o r cn hc hzm (xs (i + 1)) (xs (i + 2)) _) yf_X6_keeper yi_X6_keeper wM_L_59 ⟨Nat.le_of_ble_eq_true rfl, Nat.le_of_ble_eq_true rfl⟩ hP hD List.perm_append_comm 0 rfl rfl hl rfl rfl (Nat.le_of_ble_eq_true rfl) dL_law_437 ⟨Nat.le_of_ble_eq_true rfl, Nat.le_of_ble_eq_true rfl⟩) hP hD hS LwX.A List.perm_append_comm (List.Perm.refl _) (fun H locs hP hD hS => ?_)
  have hE : (kKeeper q cn (xs (i + 1)) (xs (i + 2))) = (mKeeper r cn (xs (i + 1)) (xs (i + 2))) := p_keeper h hz hc (xs (i + 1)) (xs (i + 2))
  refine lv_icmp_eq (tgt := 720) hx hb dL_law_440 (by decide) (fun _ => ?_) (fun c1 => absurd hE c1)
  exact nx _ _ h ls _ _ hP hD hS hl
set_option maxHeartbeats 4000000 in
set_option maxRecDepth 100000 in
/-- keeperTime -/
theorem lw_c11 {p : Program} {l : Launch} {e : Env} {s : State} {m : MethodId} {below : List Frame} {meth : Method} {c : Code} {g : wG} {t : Nat → Nat} {b L : Nat} {xs : Nat → Int32} {ad : Nat → Nat → Nat} {o : Nat → Nat} {i : Nat} (Z : LwX p s m c g t b L xs) (hi : i + 3 ≤ L) {q : CS} {r : MS} (h : Rel q r) (nx : ∀ q1 r1, Rel q1 r1 → LwG p l e s m below meth c g b ad o i 720 q1 r1) : LwG p l e s m below meth c g b ad o i 445 q r := by
  obtain ⟨X, hZ, -, -, -⟩ := id Z
  obtain ⟨⟨hx, hb, hml, hown, hts⟩, hK, hN⟩ := id X
  have hB := h.1.b
  have hlj := h.2.1.1
  have hm5 := h.2.1.2.1
  obtain ⟨cn, hc, hz⟩ := h.1.cn
  have hzm := cn_of h.1 hz
  have hln : cN q ≤ 60 := h.2.2.2.2.1
  have hy6 : mY r ≤ 60 := by rw [← h.2.2.2.1]; exact hln
  intro ls H locs hP hD hS hl
  refine lv_aload_n hx hb dL_law_445 rfl (lv_at hl 2 rfl) ?_
  refine x_goI (wn := CW g ad q ++ MW g o r) (x_rV (As := []) X (c_X5_keeperTime l g ad q cn hc hz _) yf_X5_keeperTime yi_X5_keeperTime wM_L_60 ⟨Nat.le_of_ble_eq_true rfl, Nat.le_of_ble_eq_true rfl⟩ hP hD (List.Perm.refl _) 0 rfl rfl hl rfl rfl (Nat.le_of_ble_eq_true rfl) dL_law_446 ⟨Nat.le_of_ble_eq_true rfl, Nat.le_of_ble_eq_true rfl⟩) hP hD hS LwX.A (List.Perm.refl _) List.perm_append_comm (fun H locs hP hD hS => ?_)
  refine lv_aload_n hx hb dL_law_449 rfl (lv_at hl 3 rfl) ?_
  refine x_goI (wn := CW g ad q ++ MW g o r) (x_rV (As := []) X (c_X6_keeperTime l g o r cn hc hzm _) yf_X6_keeperTime yi_X6_keeperTime wM_L_63 ⟨Nat.le_of_ble_eq_true rfl, Nat.le_of_ble_eq_true rfl⟩ hP hD List.perm_append_comm 0 rfl rfl hl rfl rfl (Nat.le_of_ble_eq_true rfl) dL_law_450 ⟨Nat.le_of_ble_eq_true rfl, Nat.le_of_ble_eq_true rfl⟩) hP hD hS LwX.A List.perm_append_comm (List.Perm.refl _) (fun H locs hP hD hS => ?_)
  have hE : (tok cn (cT q 0) (cT q 1) (cT q 2)) = (mKeeperTime r cn) := p_keeperTime h hz hc
  refine lv_icmp_eq (tgt := 720) hx hb dL_law_453 (by decide) (fun _ => ?_) (fun c1 => absurd hE c1)
  exact nx _ _ h ls _ _ hP hD hS hl
set_option maxHeartbeats 4000000 in
set_option maxRecDepth 100000 in
/-- face -/
theorem lw_c12 {p : Program} {l : Launch} {e : Env} {s : State} {m : MethodId} {below : List Frame} {meth : Method} {c : Code} {g : wG} {t : Nat → Nat} {b L : Nat} {xs : Nat → Int32} {ad : Nat → Nat → Nat} {o : Nat → Nat} {i : Nat} (Z : LwX p s m c g t b L xs) (hi : i + 3 ≤ L) {q : CS} {r : MS} (h : Rel q r) (nx : ∀ q1 r1, Rel q1 r1 → LwG p l e s m below meth c g b ad o i 720 q1 r1) : LwG p l e s m below meth c g b ad o i 458 q r := by
  obtain ⟨X, hZ, -, -, -⟩ := id Z
  obtain ⟨⟨hx, hb, hml, hown, hts⟩, hK, hN⟩ := id X
  have hB := h.1.b
  have hlj := h.2.1.1
  have hm5 := h.2.1.2.1
  obtain ⟨cn, hc, hz⟩ := h.1.cn
  have hzm := cn_of h.1 hz
  have hln : cN q ≤ 60 := h.2.2.2.2.1
  have hy6 : mY r ≤ 60 := by rw [← h.2.2.2.1]; exact hln
  intro ls H locs hP hD hS hl
  refine lv_aload_n hx hb dL_law_458 rfl (lv_at hl 2 rfl) ?_
  refine lw_arg1 Z hi hS hl 1 0 rfl rfl dL_law_459 dL_law_460 dL_law_461 dL_law_462 dL_law_463 ?_
  refine lw_arg2 Z hi hS hl 1 0 rfl rfl dL_law_464 dL_law_465 dL_law_466 dL_law_467 dL_law_468 ?_
  refine x_goI (wn := CW g ad q ++ MW g o r) (x_rV (As := [.int (xs (i + 1)), .int (xs (i + 2))]) X (c_X5_face l g ad q (xs (i + 1)) (xs (i + 2)) _) yf_X5_face yi_X5_face wM_L_64 ⟨Nat.le_of_ble_eq_true rfl, Nat.le_of_ble_eq_true rfl⟩ hP hD (List.Perm.refl _) 0 rfl rfl hl rfl rfl (Nat.le_of_ble_eq_true rfl) dL_law_469 ⟨Nat.le_of_ble_eq_true rfl, Nat.le_of_ble_eq_true rfl⟩) hP hD hS LwX.A (List.Perm.refl _) List.perm_append_comm (fun H locs hP hD hS => ?_)
  refine lv_aload_n hx hb dL_law_472 rfl (lv_at hl 3 rfl) ?_
  refine lw_arg1 Z hi hS hl 1 0 rfl rfl dL_law_473 dL_law_474 dL_law_475 dL_law_476 dL_law_477 ?_
  refine lw_arg2 Z hi hS hl 1 0 rfl rfl dL_law_478 dL_law_479 dL_law_480 dL_law_481 dL_law_482 ?_
  refine x_goI (wn := CW g ad q ++ MW g o r) (x_rV (As := [.int (xs (i + 1)), .int (xs (i + 2))]) X (c_X6_face l g o r (xs (i + 1)) (xs (i + 2)) _) yf_X6_face yi_X6_face wM_L_67 ⟨Nat.le_of_ble_eq_true rfl, Nat.le_of_ble_eq_true rfl⟩ hP hD List.perm_append_comm 0 rfl rfl hl rfl rfl (Nat.le_of_ble_eq_true rfl) dL_law_483 ⟨Nat.le_of_ble_eq_true rfl, Nat.le_of_ble_eq_true rfl⟩) hP hD hS LwX.A List.perm_append_comm (List.Perm.refl _) (fun H locs hP hD hS => ?_)
  have hE : (kFace q (xs (i + 1)) (xs (i + 2))) = (mFace r (xs (i + 1)) (xs (i + 2))) := p_face h (xs (i + 1)) (xs (i + 2))
  refine lv_icmp_eq (tgt := 720) hx hb dL_law_486 (by decide) (fun _ => ?_) (fun c1 => absurd hE c1)
  exact nx _ _ h ls _ _ hP hD hS hl

set_option maxHeartbeats 4000000 in
set_option maxRecDepth 100000 in
theorem lw_B {p : Program} {l : Launch} {e : Env} {s : State} {m : MethodId} {below : List Frame} {meth : Method} {c : Code} {g : wG} {tt : Nat → Nat} {b L : Nat} {xs : Nat → Int32} {A : Nat → Prop} {ad : Nat → Nat → Nat} {bf bk bt cl sl : Nat} (Z : LwX p s m c g tt b L xs A) (hcl : cl + 10 ≤ 600000) (hsl : sl + 180 ≤ 7302250) {tm cn : Nat} {q : CS} {t f k : RI} {S R : Nat → Nat} (h : RQx tm cn q t f k S R) (hq : cL q < 5) (ht9 : tm + 3000 ≤ 999999) {ei : Nat} {nf : Nat} (hn31 : nf < 2 ^ 31) (hn14 : nI nf = 1440) (hnf : nf = 1440) (nx : ∀ (q' : CS), RQx tm cn q' t f k S R → cL q' < 5 → LwG p l e s m below meth c g b A [(5, .int (nI ei)), (1, .ref (ad 8 0)), (2, .ref bf), (3, .ref bk), (4, .ref bt), (0, .ref b)] 1403 (cl + 8) (sl + 144) (LW g bf bk bt f k t ++ CW g ad q')) : LwG p l e s m below meth c g b A [(5, .int (nI ei)), (1, .ref (ad 8 0)), (2, .ref bf), (3, .ref bk), (4, .ref bt), (0, .ref b)] 1162 cl sl (LW g bf bk bt f k t ++ CW g ad q) := by
  obtain ⟨X, hZ, hT, hL, hA⟩ := Z
  obtain ⟨⟨hx, hb, hml, hown, hts⟩, hK, hN⟩ := id X
  have hc6 := h.cn6
  intro ls H locs hP hD hS hl
  have hP : va_P g.1 vwCl ([(bf, .inl (g.2 0, 28, .inl f)), (bk, .inl (g.2 0, 12, .inl k)), (bt, .inl (g.2 0, 8, .inl t))] ++ (CW g ad q)) H := hP
  have hD : va_D A ([(bf, .inl (g.2 0, 28, .inl f)), (bk, .inl (g.2 0, 12, .inl k)), (bt, .inl (g.2 0, 8, .inl t))] ++ (CW g ad q)) := hD
  refine lv_iload hx hb dL_law_1162 (lv_at hl 0 rfl) ?_
  refine lv_bipush (v := 12) hx hb dL_law_1164 (by decide) ?_
  refine lv_irem hx hb dL_law_1166 (by decide) ?_
  refine lv_bipush (v := 11) hx hb dL_law_1167 (by decide) ?_
  refine lv_icmp_ne (tgt := 1403) hx hb dL_law_1169 (by decide) (fun (c_1 : ¬ (jrem (nI ei) 12) = 11) => ?_) (fun (c_1 : (jrem (nI ei) 12) = 11) => ?_)
  · refine W.widen (k := cl + 8) (n := sl + 144) (by omega) (by omega) ?_
    exact nx _ h hq ls _ _ hP hD hS (lv_sub hl [0, 1, 2, 3, 4, 5] rfl)
  · refine lv_iconst (v := 0) hx hb dL_law_1172 (by decide) ?_
    refine lv_istore (lv' := [(10, .int 0), (5, .int (nI ei)), (1, .ref (ad 8 0)), (2, .ref bf), (3, .ref bk), (4, .ref bt), (0, .ref b)]) hx hb dL_law_1173 hl (by decide) rfl (fun ls hl => ?_)
    refine lv_iconst (v := 0) hx hb dL_law_1175 (by decide) ?_
    refine lv_istore (lv' := [(11, .int 0), (10, .int 0), (5, .int (nI ei)), (1, .ref (ad 8 0)), (2, .ref bf), (3, .ref bk), (4, .ref bt), (0, .ref b)]) hx hb dL_law_1176 hl (by decide) rfl (fun ls hl => ?_)
    refine lv_iconst (v := 0) hx hb dL_law_1178 (by decide) ?_
    refine lv_istore (lv' := [(12, .int 0), (11, .int 0), (10, .int 0), (5, .int (nI ei)), (1, .ref (ad 8 0)), (2, .ref bf), (3, .ref bk), (4, .ref bt), (0, .ref b)]) hx hb dL_law_1179 hl (by decide) rfl (fun ls hl => ?_)
    suffices LP1181 : ∀ (n : Nat) (oi : Nat) (b9 : Int32) (u8 : Int32), oi + n = 4 → BOi q cn nf oi b9 u8 → ∀ (ls : Array Slot) (H : Heap) (locs : List Loc), va_P g.1 vwCl ([(bf, .inl (g.2 0, 28, .inl f)), (bk, .inl (g.2 0, 12, .inl k)), (bt, .inl (g.2 0, 8, .inl t))] ++ (CW g ad q)) H → va_D A ([(bf, .inl (g.2 0, 28, .inl f)), (bk, .inl (g.2 0, 12, .inl k)), (bt, .inl (g.2 0, 8, .inl t))] ++ (CW g ad q)) → va_S A s.heap H locs → lv_has ls 22 [(12, .int (nI oi)), (10, .int b9), (11, .int u8), (5, .int (nI ei)), (1, .ref (ad 8 0)), (2, .ref bf), (3, .ref bk), (4, .ref bt), (0, .ref b)] → W p l e room_1 s m #[Value.ref b] below meth c H locs (cl + 2 * oi) (sl + 36 * oi) (lw_Z below #[Value.ref b] s) (F0 m 1181 ls []) from LP1181 4 0 0 0 rfl (Or.inl ⟨rfl, rfl, rfl⟩) ls _ _ hP hD hS (lv_sub hl [0, 2, 1, 3, 4, 5, 6, 7, 8] rfl)
    intro n
    induction n with
    | zero =>
      intro oi b9 u8 hoi hBO ls H locs hP hD hS hl
      refine lv_iload hx hb dL_law_1181 (lv_at hl 0 rfl) ?_
      refine lv_iconst (v := 4) hx hb dL_law_1183 (by decide) ?_
      refine lv_icmp_ge (tgt := 1392) hx hb dL_law_1184 (by decide) (fun c_2 => ?_) (fun q9 => absurd (show 4 ≤ (nI oi) from (nI_le (a := 4) (by omega) (by omega))) (show ¬ (4 ≤ (nI oi)) from q9))
      refine lv_aload_n hx hb dL_law_1392 rfl (lv_at hl 4 rfl) ?_
      refine x_goI (wn := [(bf, .inl (g.2 0, 28, .inl f)), (bk, .inl (g.2 0, 12, .inl k)), (bt, .inl (g.2 0, 8, .inl t))] ++ (CW g ad ((kBestOiln q cn nf).2))) (x_rV (As := []) X (c_X5_bestOiln l g ad q h.b cn h.cn6 h.x7 nf hn31 hn14 _) yf_X5_bestOil yi_X5_bestOil wM_L_114 ⟨Nat.le_of_ble_eq_true rfl, Nat.le_of_ble_eq_true rfl⟩ hP hD List.perm_append_comm 0 rfl rfl hl rfl rfl (Nat.le_of_ble_eq_true rfl) dL_law_1393 ⟨show cl + 2 * oi ≤ 600000 from by omega, show sl + 36 * oi ≤ 7302250 from by omega⟩) hP hD hS hA List.perm_append_comm (List.Perm.refl _) (fun H locs hP hD hS => ?_)
      refine lv_iload hx hb dL_law_1396 (lv_at hl 1 rfl) ?_
      refine lv_icmp_eq (tgt := 1403) hx hb dL_law_1398 (by decide) (fun c_3 => ?_) (fun q9 => absurd (show ((kBestOiln q cn nf).1) = b9 from (bo_end (by rw [show (4 : Nat) = oi by omega]; exact hBO))) (show ¬ (((kBestOiln q cn nf).1) = b9) from q9))
      refine W.widen (k := cl + 8) (n := sl + 144) (by omega) (by omega) ?_
      have h9 : RQx tm cn ((kBestOiln q cn nf).2) t f k S R := h
      exact nx _ h9 hq ls _ _ hP hD hS (lv_sub hl [3, 4, 5, 6, 7, 8] rfl)
    | succ n ih =>
      intro oi b9 u8 hoi hBO ls H locs hP hD hS hl
      have ihO := ih
      refine lv_iload hx hb dL_law_1181 (lv_at hl 0 rfl) ?_
      refine lv_iconst (v := 4) hx hb dL_law_1183 (by decide) ?_
      refine lv_icmp_ge (tgt := 1392) hx hb dL_law_1184 (by decide) (fun q9 => absurd q9 (show ¬ 4 ≤ (nI oi) from (nI_ge (b := 4) (by omega) (by omega)))) (fun c_4 => ?_)
      refine lv_aload_n hx hb dL_law_1187 rfl (lv_at hl 5 rfl) ?_
      refine lv_bipush (v := 28) hx hb dL_law_1188 (by decide) ?_
      refine x_newI (n := 28) X wA_int hP hD hS hA rfl (by decide) (show cl + 2 * oi + 1 ≤ 600000 from by omega) (show sl + 36 * oi + 28 ≤ 7302250 from by omega) dL_law_1190 (fun q_1 H hP hD hS => ?_)
      have hP : va_P g.1 vwCl ([(bf, .inl (g.2 0, 28, .inl f)), (bk, .inl (g.2 0, 12, .inl k)), (bt, .inl (g.2 0, 8, .inl t)), (q_1, .inl (g.2 0, 28, .inl (fun _ => 0)))] ++ (CW g ad q)) H := wo_P_perm (perm_tl _ _ _) hP
      have hD : va_D A ([(bf, .inl (g.2 0, 28, .inl f)), (bk, .inl (g.2 0, 12, .inl k)), (bt, .inl (g.2 0, 8, .inl t)), (q_1, .inl (g.2 0, 28, .inl (fun _ => 0)))] ++ (CW g ad q)) := wo_D_perm (perm_tl _ _ _) hD
      refine x_goQ (wn := [(bf, .inl (g.2 0, 28, .inl f)), (bk, .inl (g.2 0, 12, .inl k)), (bt, .inl (g.2 0, 8, .inl t)), (q_1, .inl (g.2 0, 28, .inl f))] ++ (CW g ad q)) (x_rS (As := [.ref bf, .ref q_1]) X (c_L_copy l g bf q_1 28 (by decide) f (fun _ => 0) _) yf_L_copy ys_L_copy wM_L_104 ⟨Nat.le_of_ble_eq_true rfl, Nat.le_of_ble_eq_true rfl⟩ hP hD (cut2 (List.Perm.refl _) (wo_perm (ws' := [_, _] ++ [_, _]) 4 [0, 3, 1, 2] rfl (by decide) rfl)) hl rfl rfl (Nat.le_of_ble_eq_true rfl) dL_law_1192 ⟨show cl + 2 * oi + 1 ≤ 600000 from by omega, show sl + 36 * oi + 28 ≤ 7302250 from by omega⟩) hP hD hS hA (cut2 (List.Perm.refl _) (wo_perm (ws' := [_, _] ++ [_, _]) 4 [0, 3, 1, 2] rfl (by decide) rfl)) (back2 (wo_perm 4 [2, 0, 1, 3] rfl (by decide) rfl) List.perm_append_comm) rfl (fun H locs hP hD hS => ?_)
      refine lv_astore (lv' := [(13, .ref q_1), (12, .int (nI oi)), (10, .int b9), (11, .int u8), (5, .int (nI ei)), (1, .ref (ad 8 0)), (2, .ref bf), (3, .ref bk), (4, .ref bt), (0, .ref b)]) hx hb dL_law_1195 hl (by decide) rfl (fun ls hl => ?_)
      refine lv_aload hx hb dL_law_1197 (lv_at hl 8 rfl) ?_
      refine lv_bipush (v := 8) hx hb dL_law_1199 (by decide) ?_
      refine x_newI (n := 8) X wA_int hP hD hS hA rfl (by decide) (show cl + 2 * oi + 1 + 1 ≤ 600000 from by omega) (show sl + 36 * oi + 28 + 8 ≤ 7302250 from by omega) dL_law_1201 (fun q_2 H hP hD hS => ?_)
      have hP : va_P g.1 vwCl ([(bf, .inl (g.2 0, 28, .inl f)), (bk, .inl (g.2 0, 12, .inl k)), (bt, .inl (g.2 0, 8, .inl t)), (q_1, .inl (g.2 0, 28, .inl f)), (q_2, .inl (g.2 0, 8, .inl (fun _ => 0)))] ++ (CW g ad q)) H := wo_P_perm (perm_tl _ _ _) hP
      have hD : va_D A ([(bf, .inl (g.2 0, 28, .inl f)), (bk, .inl (g.2 0, 12, .inl k)), (bt, .inl (g.2 0, 8, .inl t)), (q_1, .inl (g.2 0, 28, .inl f)), (q_2, .inl (g.2 0, 8, .inl (fun _ => 0)))] ++ (CW g ad q)) := wo_D_perm (perm_tl _ _ _) hD
      refine x_goQ (wn := [(bf, .inl (g.2 0, 28, .inl f)), (bk, .inl (g.2 0, 12, .inl k)), (bt, .inl (g.2 0, 8, .inl t)), (q_1, .inl (g.2 0, 28, .inl f)), (q_2, .inl (g.2 0, 8, .inl t))] ++ (CW g ad q)) (x_rS (As := [.ref bt, .ref q_2]) X (c_L_copy l g bt q_2 8 (by decide) t (fun _ => 0) _) yf_L_copy ys_L_copy wM_L_104 ⟨Nat.le_of_ble_eq_true rfl, Nat.le_of_ble_eq_true rfl⟩ hP hD (cut2 (List.Perm.refl _) (wo_perm (ws' := [_, _] ++ [_, _, _]) 5 [2, 4, 0, 1, 3] rfl (by decide) rfl)) hl rfl rfl (Nat.le_of_ble_eq_true rfl) dL_law_1203 ⟨show cl + 2 * oi + 1 + 1 ≤ 600000 from by omega, show sl + 36 * oi + 28 + 8 ≤ 7302250 from by omega⟩) hP hD hS hA (cut2 (List.Perm.refl _) (wo_perm (ws' := [_, _] ++ [_, _, _]) 5 [2, 4, 0, 1, 3] rfl (by decide) rfl)) (back2 (wo_perm 5 [0, 1, 3, 2, 4] rfl (by decide) rfl) List.perm_append_comm) rfl (fun H locs hP hD hS => ?_)
      refine lv_astore (lv' := [(14, .ref q_2), (13, .ref q_1), (12, .int (nI oi)), (10, .int b9), (11, .int u8), (5, .int (nI ei)), (1, .ref (ad 8 0)), (2, .ref bf), (3, .ref bk), (4, .ref bt), (0, .ref b)]) hx hb dL_law_1206 hl (by decide) rfl (fun ls hl => ?_)
      refine lv_aload hx hb dL_law_1208 (lv_at hl 1 rfl) ?_
      refine lv_bipush (v := 7) hx hb dL_law_1210 (by decide) ?_
      refine lv_iload hx hb dL_law_1212 (lv_at hl 2 rfl) ?_
      refine lv_imul hx hb dL_law_1214 ?_
      refine lv_iconst (v := 2) hx hb dL_law_1215 (by decide) ?_
      refine lv_iadd hx hb dL_law_1216 ?_
      refine lv_iconst (v := 0) hx hb dL_law_1217 (by decide) ?_
      refine x_iast (ws2 := [(bf, .inl (g.2 0, 28, .inl f)), (bk, .inl (g.2 0, 12, .inl k)), (bt, .inl (g.2 0, 8, .inl t)), (q_1, .inl (g.2 0, 28, .inl (upd f ((7 * oi) + 2) 0))), (q_2, .inl (g.2 0, 8, .inl t))] ++ (CW g ad q)) X 3 ((7 * oi) + 2) hP hD hS rfl (z_add (z_mul rfl rfl) rfl) (by omega) (Nat.le_of_ble_eq_true rfl) rfl dL_law_1218 (fun H locs hP hD hS => ?_)
      refine lv_aload hx hb dL_law_1219 (lv_at hl 1 rfl) ?_
      refine lv_bipush (v := 7) hx hb dL_law_1221 (by decide) ?_
      refine lv_iload hx hb dL_law_1223 (lv_at hl 2 rfl) ?_
      refine lv_imul hx hb dL_law_1225 ?_
      refine lv_iconst (v := 3) hx hb dL_law_1226 (by decide) ?_
      refine lv_iadd hx hb dL_law_1227 ?_
      refine lv_dup2_11 hx hb dL_law_1228 rfl rfl ?_
      refine x_iald (v := ((upd f ((7 * oi) + 2) 0) ((7 * oi) + 3))) X 3 ((7 * oi) + 3) hP rfl (z_add (z_mul rfl rfl) rfl) (by omega) (Nat.le_of_ble_eq_true rfl) rfl dL_law_1229 ?_
      refine lv_aload hx hb dL_law_1230 (lv_at hl 1 rfl) ?_
      refine lv_bipush (v := 7) hx hb dL_law_1232 (by decide) ?_
      refine lv_iload hx hb dL_law_1234 (lv_at hl 2 rfl) ?_
      refine lv_imul hx hb dL_law_1236 ?_
      refine lv_iconst (v := 3) hx hb dL_law_1237 (by decide) ?_
      refine lv_iadd hx hb dL_law_1238 ?_
      refine x_iald (v := ((upd f ((7 * oi) + 2) 0) ((7 * oi) + 3))) X 3 ((7 * oi) + 3) hP rfl (z_add (z_mul rfl rfl) rfl) (by omega) (Nat.le_of_ble_eq_true rfl) rfl dL_law_1239 ?_
      refine lv_if_le (tgt := 1247) hx hb dL_law_1240 (by decide) (fun (c_5 : ((upd f ((7 * oi) + 2) 0) ((7 * oi) + 3)) ≤ 0) => ?_) (fun (c_5 : ¬ ((upd f ((7 * oi) + 2) 0) ((7 * oi) + 3)) ≤ 0) => ?_)
      · refine lv_iconst (v := 0) hx hb dL_law_1247 (by decide) ?_
        refine lv_isub hx hb dL_law_1248 ?_
        refine x_iast (ws2 := [(bf, .inl (g.2 0, 28, .inl f)), (bk, .inl (g.2 0, 12, .inl k)), (bt, .inl (g.2 0, 8, .inl t)), (q_1, .inl (g.2 0, 28, .inl (upd (upd f ((7 * oi) + 2) 0) ((7 * oi) + 3) (((upd f ((7 * oi) + 2) 0) ((7 * oi) + 3)) - 0)))), (q_2, .inl (g.2 0, 8, .inl t))] ++ (CW g ad q)) X 3 ((7 * oi) + 3) hP hD hS rfl (z_add (z_mul rfl rfl) rfl) (by omega) (Nat.le_of_ble_eq_true rfl) rfl dL_law_1249 (fun H locs hP hD hS => ?_)
        have e3 : (upd f (7 * oi + 2) 0) (7 * oi + 3) = f (7 * oi + 3) := up_n (by omega)
        have ev : (((upd f ((7 * oi) + 2) 0) ((7 * oi) + 3)) - 0) = f (7 * oi + 3) - (if f (7 * oi + 3) ≤ 0 then 0 else 1) := by
          have c9 := c_5
          rw [e3] at c9
          rw [e3, if_pos c9]
        refine lv_iconst (v := 0) hx hb dL_law_1250 (by decide) ?_
        refine lv_istore (lv' := [(15, .int 0), (14, .ref q_2), (13, .ref q_1), (12, .int (nI oi)), (10, .int b9), (11, .int u8), (5, .int (nI ei)), (1, .ref (ad 8 0)), (2, .ref bf), (3, .ref bk), (4, .ref bt), (0, .ref b)]) hx hb dL_law_1251 hl (by decide) rfl (fun ls hl => ?_)
        suffices LP1253 : ∀ (n : Nat) (mi : Nat) (y : Nat → Int32) (u : Nat → Int32) (xx : Nat → Int32) (u9 : Int32), mi + n = nf → RTx (tm + mi) cn xx (cT q 1) (cT q 2) (cT q 3) u y k S R → pmsC cn (cT q 1) (cT q 2) (cT q 3) n xx u9 = pmsC cn (cT q 1) (cT q 2) (cT q 3) nf (oilC (8 + 7 * oi) (cT q 0)) 0 → ∀ (ls : Array Slot) (H : Heap) (locs : List Loc), va_P g.1 vwCl ([(bf, .inl (g.2 0, 28, .inl f)), (bk, .inl (g.2 0, 12, .inl k)), (bt, .inl (g.2 0, 8, .inl t)), (q_1, .inl (g.2 0, 28, .inl y)), (q_2, .inl (g.2 0, 8, .inl u))] ++ (CW g ad q)) H → va_D A ([(bf, .inl (g.2 0, 28, .inl f)), (bk, .inl (g.2 0, 12, .inl k)), (bt, .inl (g.2 0, 8, .inl t)), (q_1, .inl (g.2 0, 28, .inl y)), (q_2, .inl (g.2 0, 8, .inl u))] ++ (CW g ad q)) → va_S A s.heap H locs → lv_has ls 22 [(15, .int (nI mi)), (13, .ref q_1), (14, .ref q_2), (12, .int (nI oi)), (10, .int b9), (11, .int u8), (5, .int (nI ei)), (1, .ref (ad 8 0)), (2, .ref bf), (3, .ref bk), (4, .ref bt), (0, .ref b)] → W p l e room_1 s m #[Value.ref b] below meth c H locs (cl + 2 * oi + 1 + 1) (sl + 36 * oi + 28 + 8) (lw_Z below #[Value.ref b] s) (F0 m 1253 ls []) from LP1253 nf 0 (upd (upd f ((7 * oi) + 2) 0) ((7 * oi) + 3) (((upd f ((7 * oi) + 2) 0) ((7 * oi) + 3)) - 0)) t (oilC (8 + 7 * oi) (cT q 0)) 0 (Nat.zero_add _) (l_oilT h (show oi < 4 from by omega) ev) rfl ls _ _ hP hD hS (lv_sub hl [0, 2, 1, 3, 4, 5, 6, 7, 8, 9, 10, 11] rfl)
        intro n
        induction n with
        | zero =>
          intro mi y u xx u9 hmi hR hp ls H locs hP hD hS hl
          refine lv_iload hx hb dL_law_1253 (lv_at hl 0 rfl) ?_
          refine lv_sipush (v := 1440) hx hb dL_law_1255 (by decide) ?_
          refine lv_icmp_ge (tgt := 1276) hx hb dL_law_1258 (by decide) (fun c_6 => ?_) (fun q9 => absurd (show 1440 ≤ (nI mi) from (nI_le (a := 1440) (by omega) (by omega))) (show ¬ (1440 ≤ (nI mi)) from q9))
          refine lv_aload hx hb dL_law_1276 (lv_at hl 1 rfl) ?_
          refine lv_iconst (v := 0) hx hb dL_law_1278 (by decide) ?_
          refine x_iald (v := (y 0)) X 3 0 hP rfl rfl (by decide) (Nat.le_of_ble_eq_true rfl) rfl dL_law_1279 ?_
          refine lv_aload hx hb dL_law_1280 (lv_at hl 2 rfl) ?_
          refine lv_iconst (v := 0) hx hb dL_law_1282 (by decide) ?_
          refine x_iald (v := (u 0)) X 4 0 hP rfl rfl (by decide) (Nat.le_of_ble_eq_true rfl) rfl dL_law_1283 ?_
          refine lv_sipush (v := 720) hx hb dL_law_1284 (by decide) ?_
          refine lv_irem hx hb dL_law_1287 (by decide) ?_
          refine x_goI (wn := [(bf, .inl (g.2 0, 28, .inl f)), (bk, .inl (g.2 0, 12, .inl k)), (bt, .inl (g.2 0, 8, .inl t)), (q_1, .inl (g.2 0, 28, .inl y)), (q_2, .inl (g.2 0, 8, .inl u))] ++ (CW g ad q)) (x_rS (As := [.int (y 0), .int (jrem (u 0) 720)]) X (c_L_apart l g (y 0) (jrem (u 0) 720) (hR.fd 0 (by decide)) (hR.dt (by omega)) _) yf_L_apart ys_L_apart wM_L_20 ⟨Nat.le_of_ble_eq_true rfl, Nat.le_of_ble_eq_true rfl⟩ hP hD (p_none _) hl rfl rfl (Nat.le_of_ble_eq_true rfl) dL_law_1288 ⟨show cl + 2 * oi + 1 + 1 ≤ 600000 from by omega, show sl + 36 * oi + 28 + 8 ≤ 7302250 from by omega⟩) hP hD hS hA (p_none _) (p_noneB _) (fun H locs hP hD hS => ?_)
          refine lv_aload hx hb dL_law_1291 (lv_at hl 1 rfl) ?_
          refine lv_bipush (v := 7) hx hb dL_law_1293 (by decide) ?_
          refine x_iald (v := (y 7)) X 3 7 hP rfl rfl (by decide) (Nat.le_of_ble_eq_true rfl) rfl dL_law_1295 ?_
          refine lv_aload hx hb dL_law_1296 (lv_at hl 2 rfl) ?_
          refine lv_iconst (v := 0) hx hb dL_law_1298 (by decide) ?_
          refine x_iald (v := (u 0)) X 4 0 hP rfl rfl (by decide) (Nat.le_of_ble_eq_true rfl) rfl dL_law_1299 ?_
          refine lv_sipush (v := 720) hx hb dL_law_1300 (by decide) ?_
          refine lv_irem hx hb dL_law_1303 (by decide) ?_
          refine x_goI (wn := [(bf, .inl (g.2 0, 28, .inl f)), (bk, .inl (g.2 0, 12, .inl k)), (bt, .inl (g.2 0, 8, .inl t)), (q_1, .inl (g.2 0, 28, .inl y)), (q_2, .inl (g.2 0, 8, .inl u))] ++ (CW g ad q)) (x_rS (As := [.int (y 7), .int (jrem (u 0) 720)]) X (c_L_apart l g (y 7) (jrem (u 0) 720) (hR.fd 1 (by decide)) (hR.dt (by omega)) _) yf_L_apart ys_L_apart wM_L_20 ⟨Nat.le_of_ble_eq_true rfl, Nat.le_of_ble_eq_true rfl⟩ hP hD (p_none _) hl rfl rfl (Nat.le_of_ble_eq_true rfl) dL_law_1304 ⟨show cl + 2 * oi + 1 + 1 ≤ 600000 from by omega, show sl + 36 * oi + 28 + 8 ≤ 7302250 from by omega⟩) hP hD hS hA (p_none _) (p_noneB _) (fun H locs hP hD hS => ?_)
          refine lv_iadd hx hb dL_law_1307 ?_
          refine lv_aload hx hb dL_law_1308 (lv_at hl 1 rfl) ?_
          refine lv_bipush (v := 14) hx hb dL_law_1310 (by decide) ?_
          refine x_iald (v := (y 14)) X 3 14 hP rfl rfl (by decide) (Nat.le_of_ble_eq_true rfl) rfl dL_law_1312 ?_
          refine lv_aload hx hb dL_law_1313 (lv_at hl 2 rfl) ?_
          refine lv_iconst (v := 0) hx hb dL_law_1315 (by decide) ?_
          refine x_iald (v := (u 0)) X 4 0 hP rfl rfl (by decide) (Nat.le_of_ble_eq_true rfl) rfl dL_law_1316 ?_
          refine lv_sipush (v := 720) hx hb dL_law_1317 (by decide) ?_
          refine lv_irem hx hb dL_law_1320 (by decide) ?_
          refine x_goI (wn := [(bf, .inl (g.2 0, 28, .inl f)), (bk, .inl (g.2 0, 12, .inl k)), (bt, .inl (g.2 0, 8, .inl t)), (q_1, .inl (g.2 0, 28, .inl y)), (q_2, .inl (g.2 0, 8, .inl u))] ++ (CW g ad q)) (x_rS (As := [.int (y 14), .int (jrem (u 0) 720)]) X (c_L_apart l g (y 14) (jrem (u 0) 720) (hR.fd 2 (by decide)) (hR.dt (by omega)) _) yf_L_apart ys_L_apart wM_L_20 ⟨Nat.le_of_ble_eq_true rfl, Nat.le_of_ble_eq_true rfl⟩ hP hD (p_none _) hl rfl rfl (Nat.le_of_ble_eq_true rfl) dL_law_1321 ⟨show cl + 2 * oi + 1 + 1 ≤ 600000 from by omega, show sl + 36 * oi + 28 + 8 ≤ 7302250 from by omega⟩) hP hD hS hA (p_none _) (p_noneB _) (fun H locs hP hD hS => ?_)
          refine lv_iadd hx hb dL_law_1324 ?_
          refine lv_aload hx hb dL_law_1325 (lv_at hl 1 rfl) ?_
          refine lv_bipush (v := 21) hx hb dL_law_1327 (by decide) ?_
          refine x_iald (v := (y 21)) X 3 21 hP rfl rfl (by decide) (Nat.le_of_ble_eq_true rfl) rfl dL_law_1329 ?_
          refine lv_aload hx hb dL_law_1330 (lv_at hl 2 rfl) ?_
          refine lv_iconst (v := 0) hx hb dL_law_1332 (by decide) ?_
          refine x_iald (v := (u 0)) X 4 0 hP rfl rfl (by decide) (Nat.le_of_ble_eq_true rfl) rfl dL_law_1333 ?_
          refine lv_sipush (v := 720) hx hb dL_law_1334 (by decide) ?_
          refine lv_irem hx hb dL_law_1337 (by decide) ?_
          refine x_goI (wn := [(bf, .inl (g.2 0, 28, .inl f)), (bk, .inl (g.2 0, 12, .inl k)), (bt, .inl (g.2 0, 8, .inl t)), (q_1, .inl (g.2 0, 28, .inl y)), (q_2, .inl (g.2 0, 8, .inl u))] ++ (CW g ad q)) (x_rS (As := [.int (y 21), .int (jrem (u 0) 720)]) X (c_L_apart l g (y 21) (jrem (u 0) 720) (hR.fd 3 (by decide)) (hR.dt (by omega)) _) yf_L_apart ys_L_apart wM_L_20 ⟨Nat.le_of_ble_eq_true rfl, Nat.le_of_ble_eq_true rfl⟩ hP hD (p_none _) hl rfl rfl (Nat.le_of_ble_eq_true rfl) dL_law_1338 ⟨show cl + 2 * oi + 1 + 1 ≤ 600000 from by omega, show sl + 36 * oi + 28 + 8 ≤ 7302250 from by omega⟩) hP hD hS hA (p_none _) (p_noneB _) (fun H locs hP hD hS => ?_)
          refine lv_iadd hx hb dL_law_1341 ?_
          refine lv_istore (lv' := [(15, .int ((((distC (y 0) (jrem (u 0) 720)) + (distC (y 7) (jrem (u 0) 720))) + (distC (y 14) (jrem (u 0) 720))) + (distC (y 21) (jrem (u 0) 720)))), (13, .ref q_1), (14, .ref q_2), (12, .int (nI oi)), (10, .int b9), (11, .int u8), (5, .int (nI ei)), (1, .ref (ad 8 0)), (2, .ref bf), (3, .ref bk), (4, .ref bt), (0, .ref b)]) hx hb dL_law_1342 hl (by decide) rfl (fun ls hl => ?_)
          obtain ⟨hdf, hs9⟩ := l_df hR (by omega)
          have hd9 : ((((distC (y 0) (jrem (u 0) 720)) + (distC (y 7) (jrem (u 0) 720))) + (distC (y 14) (jrem (u 0) 720))) + (distC (y 21) (jrem (u 0) 720))) = dftC (eaZn q cn oi nf) := hdf.symm.trans (show dftC xx = dftC (eaZn q cn oi nf) from congrArg dftC (congrArg Prod.fst hp))
          have hs8 : ∃ s, s ≤ 1440 ∧ ((((distC (y 0) (jrem (u 0) 720)) + (distC (y 7) (jrem (u 0) 720))) + (distC (y 14) (jrem (u 0) 720))) + (distC (y 21) (jrem (u 0) 720))) = nI s := by rw [← hdf]; exact hs9
          refine lv_iload hx hb dL_law_1344 (lv_at hl 3 rfl) ?_
          refine lv_if_le (tgt := 1361) hx hb dL_law_1346 (by decide) (fun (c_7 : (nI oi) ≤ 0) => ?_) (fun (c_7 : ¬ (nI oi) ≤ 0) => ?_)
          · refine lv_iload hx hb dL_law_1361 (lv_at hl 4 rfl) ?_
            refine lv_istore (lv' := [(10, .int b9), (15, .int ((((distC (y 0) (jrem (u 0) 720)) + (distC (y 7) (jrem (u 0) 720))) + (distC (y 14) (jrem (u 0) 720))) + (distC (y 21) (jrem (u 0) 720)))), (13, .ref q_1), (14, .ref q_2), (12, .int (nI oi)), (11, .int u8), (5, .int (nI ei)), (1, .ref (ad 8 0)), (2, .ref bf), (3, .ref bk), (4, .ref bt), (0, .ref b)]) hx hb dL_law_1363 hl (by decide) rfl (fun ls hl => ?_)
            refine lv_iload hx hb dL_law_1365 (lv_at hl 4 rfl) ?_
            refine lv_if_eq (tgt := 1377) hx hb dL_law_1367 (by decide) (fun (c_8 : (nI oi) = 0) => ?_) (fun (c_8 : ¬ (nI oi) = 0) => ?_)
            · refine lv_iload hx hb dL_law_1377 (lv_at hl 1 rfl) ?_
              refine lv_goto (tgt := 1384) hx hb dL_law_1379 (by decide) ?_
              refine lv_istore (lv' := [(11, .int ((((distC (y 0) (jrem (u 0) 720)) + (distC (y 7) (jrem (u 0) 720))) + (distC (y 14) (jrem (u 0) 720))) + (distC (y 21) (jrem (u 0) 720)))), (10, .int b9), (15, .int ((((distC (y 0) (jrem (u 0) 720)) + (distC (y 7) (jrem (u 0) 720))) + (distC (y 14) (jrem (u 0) 720))) + (distC (y 21) (jrem (u 0) 720)))), (13, .ref q_1), (14, .ref q_2), (12, .int (nI oi)), (5, .int (nI ei)), (1, .ref (ad 8 0)), (2, .ref bf), (3, .ref bk), (4, .ref bt), (0, .ref b)]) hx hb dL_law_1384 hl (by decide) rfl (fun ls hl => ?_)
              refine lv_iinc (v := (nI (oi + 1))) (lv' := [(12, .int (nI (oi + 1))), (11, .int ((((distC (y 0) (jrem (u 0) 720)) + (distC (y 7) (jrem (u 0) 720))) + (distC (y 14) (jrem (u 0) 720))) + (distC (y 21) (jrem (u 0) 720)))), (10, .int b9), (15, .int ((((distC (y 0) (jrem (u 0) 720)) + (distC (y 7) (jrem (u 0) 720))) + (distC (y 14) (jrem (u 0) 720))) + (distC (y 21) (jrem (u 0) 720)))), (13, .ref q_1), (14, .ref q_2), (5, .int (nI ei)), (1, .ref (ad 8 0)), (2, .ref bf), (3, .ref bk), (4, .ref bt), (0, .ref b)]) hx hb dL_law_1386 hl (k := 5) rfl (nI_add _ 1) (by decide) rfl (fun ls hl => ?_)
              refine lv_goto (tgt := 1181) hx hb dL_law_1389 (by decide) ?_
              have hP := P_drop (a := LW g bf bk bt f k t) (b := [(q_1, .inl (g.2 0, 28, .inl y)), (q_2, .inl (g.2 0, 8, .inl u))]) hP
              have hD := D_drop (a := LW g bf bk bt f k t) (b := [(q_1, .inl (g.2 0, 28, .inl y)), (q_2, .inl (g.2 0, 8, .inl u))]) hD
              refine W.widen (k := cl + 2 * (oi + 1)) (n := sl + 36 * (oi + 1)) (by omega) (by omega) ?_
              exact ihO (oi + 1) b9 ((((distC (y 0) (jrem (u 0) 720)) + (distC (y 7) (jrem (u 0) 720))) + (distC (y 14) (jrem (u 0) 720))) + (distC (y 21) (jrem (u 0) 720))) (by omega) (by have q9 := bo_step hBO (by omega) hd9 hs8; simp only [if_pos c_7, if_pos c_8] at q9; exact q9) ls _ _ hP hD hS (lv_sub hl [0, 2, 1, 6, 7, 8, 9, 10, 11] rfl)
            · refine lv_iload hx hb dL_law_1370 (lv_at hl 1 rfl) ?_
              refine lv_iload hx hb dL_law_1372 (lv_at hl 5 rfl) ?_
              refine lv_icmp_ge (tgt := 1382) hx hb dL_law_1374 (by decide) (fun (c_9 : u8 ≤ ((((distC (y 0) (jrem (u 0) 720)) + (distC (y 7) (jrem (u 0) 720))) + (distC (y 14) (jrem (u 0) 720))) + (distC (y 21) (jrem (u 0) 720)))) => ?_) (fun (c_9 : ¬ u8 ≤ ((((distC (y 0) (jrem (u 0) 720)) + (distC (y 7) (jrem (u 0) 720))) + (distC (y 14) (jrem (u 0) 720))) + (distC (y 21) (jrem (u 0) 720)))) => ?_)
              · refine lv_iload hx hb dL_law_1382 (lv_at hl 5 rfl) ?_
                refine lv_istore (lv' := [(11, .int u8), (10, .int b9), (15, .int ((((distC (y 0) (jrem (u 0) 720)) + (distC (y 7) (jrem (u 0) 720))) + (distC (y 14) (jrem (u 0) 720))) + (distC (y 21) (jrem (u 0) 720)))), (13, .ref q_1), (14, .ref q_2), (12, .int (nI oi)), (5, .int (nI ei)), (1, .ref (ad 8 0)), (2, .ref bf), (3, .ref bk), (4, .ref bt), (0, .ref b)]) hx hb dL_law_1384 hl (by decide) rfl (fun ls hl => ?_)
                refine lv_iinc (v := (nI (oi + 1))) (lv' := [(12, .int (nI (oi + 1))), (11, .int u8), (10, .int b9), (15, .int ((((distC (y 0) (jrem (u 0) 720)) + (distC (y 7) (jrem (u 0) 720))) + (distC (y 14) (jrem (u 0) 720))) + (distC (y 21) (jrem (u 0) 720)))), (13, .ref q_1), (14, .ref q_2), (5, .int (nI ei)), (1, .ref (ad 8 0)), (2, .ref bf), (3, .ref bk), (4, .ref bt), (0, .ref b)]) hx hb dL_law_1386 hl (k := 5) rfl (nI_add _ 1) (by decide) rfl (fun ls hl => ?_)
                refine lv_goto (tgt := 1181) hx hb dL_law_1389 (by decide) ?_
                have hP := P_drop (a := LW g bf bk bt f k t) (b := [(q_1, .inl (g.2 0, 28, .inl y)), (q_2, .inl (g.2 0, 8, .inl u))]) hP
                have hD := D_drop (a := LW g bf bk bt f k t) (b := [(q_1, .inl (g.2 0, 28, .inl y)), (q_2, .inl (g.2 0, 8, .inl u))]) hD
                refine W.widen (k := cl + 2 * (oi + 1)) (n := sl + 36 * (oi + 1)) (by omega) (by omega) ?_
                exact ihO (oi + 1) b9 u8 (by omega) (by have q9 := bo_step hBO (by omega) hd9 hs8; simp only [if_pos c_7, if_neg c_8, if_pos c_9] at q9; exact q9) ls _ _ hP hD hS (lv_sub hl [0, 2, 1, 6, 7, 8, 9, 10, 11] rfl)
              · refine lv_iload hx hb dL_law_1377 (lv_at hl 1 rfl) ?_
                refine lv_goto (tgt := 1384) hx hb dL_law_1379 (by decide) ?_
                refine lv_istore (lv' := [(11, .int ((((distC (y 0) (jrem (u 0) 720)) + (distC (y 7) (jrem (u 0) 720))) + (distC (y 14) (jrem (u 0) 720))) + (distC (y 21) (jrem (u 0) 720)))), (10, .int b9), (15, .int ((((distC (y 0) (jrem (u 0) 720)) + (distC (y 7) (jrem (u 0) 720))) + (distC (y 14) (jrem (u 0) 720))) + (distC (y 21) (jrem (u 0) 720)))), (13, .ref q_1), (14, .ref q_2), (12, .int (nI oi)), (5, .int (nI ei)), (1, .ref (ad 8 0)), (2, .ref bf), (3, .ref bk), (4, .ref bt), (0, .ref b)]) hx hb dL_law_1384 hl (by decide) rfl (fun ls hl => ?_)
                refine lv_iinc (v := (nI (oi + 1))) (lv' := [(12, .int (nI (oi + 1))), (11, .int ((((distC (y 0) (jrem (u 0) 720)) + (distC (y 7) (jrem (u 0) 720))) + (distC (y 14) (jrem (u 0) 720))) + (distC (y 21) (jrem (u 0) 720)))), (10, .int b9), (15, .int ((((distC (y 0) (jrem (u 0) 720)) + (distC (y 7) (jrem (u 0) 720))) + (distC (y 14) (jrem (u 0) 720))) + (distC (y 21) (jrem (u 0) 720)))), (13, .ref q_1), (14, .ref q_2), (5, .int (nI ei)), (1, .ref (ad 8 0)), (2, .ref bf), (3, .ref bk), (4, .ref bt), (0, .ref b)]) hx hb dL_law_1386 hl (k := 5) rfl (nI_add _ 1) (by decide) rfl (fun ls hl => ?_)
                refine lv_goto (tgt := 1181) hx hb dL_law_1389 (by decide) ?_
                have hP := P_drop (a := LW g bf bk bt f k t) (b := [(q_1, .inl (g.2 0, 28, .inl y)), (q_2, .inl (g.2 0, 8, .inl u))]) hP
                have hD := D_drop (a := LW g bf bk bt f k t) (b := [(q_1, .inl (g.2 0, 28, .inl y)), (q_2, .inl (g.2 0, 8, .inl u))]) hD
                refine W.widen (k := cl + 2 * (oi + 1)) (n := sl + 36 * (oi + 1)) (by omega) (by omega) ?_
                exact ihO (oi + 1) b9 ((((distC (y 0) (jrem (u 0) 720)) + (distC (y 7) (jrem (u 0) 720))) + (distC (y 14) (jrem (u 0) 720))) + (distC (y 21) (jrem (u 0) 720))) (by omega) (by have q9 := bo_step hBO (by omega) hd9 hs8; simp only [if_pos c_7, if_neg c_8, if_neg c_9] at q9; exact q9) ls _ _ hP hD hS (lv_sub hl [0, 2, 1, 6, 7, 8, 9, 10, 11] rfl)
          · refine lv_iload hx hb dL_law_1349 (lv_at hl 0 rfl) ?_
            refine lv_iload hx hb dL_law_1351 (lv_at hl 5 rfl) ?_
            refine lv_icmp_ge (tgt := 1361) hx hb dL_law_1353 (by decide) (fun (c_10 : u8 ≤ ((((distC (y 0) (jrem (u 0) 720)) + (distC (y 7) (jrem (u 0) 720))) + (distC (y 14) (jrem (u 0) 720))) + (distC (y 21) (jrem (u 0) 720)))) => ?_) (fun (c_10 : ¬ u8 ≤ ((((distC (y 0) (jrem (u 0) 720)) + (distC (y 7) (jrem (u 0) 720))) + (distC (y 14) (jrem (u 0) 720))) + (distC (y 21) (jrem (u 0) 720)))) => ?_)
            · refine lv_iload hx hb dL_law_1361 (lv_at hl 4 rfl) ?_
              refine lv_istore (lv' := [(10, .int b9), (15, .int ((((distC (y 0) (jrem (u 0) 720)) + (distC (y 7) (jrem (u 0) 720))) + (distC (y 14) (jrem (u 0) 720))) + (distC (y 21) (jrem (u 0) 720)))), (13, .ref q_1), (14, .ref q_2), (12, .int (nI oi)), (11, .int u8), (5, .int (nI ei)), (1, .ref (ad 8 0)), (2, .ref bf), (3, .ref bk), (4, .ref bt), (0, .ref b)]) hx hb dL_law_1363 hl (by decide) rfl (fun ls hl => ?_)
              refine lv_iload hx hb dL_law_1365 (lv_at hl 4 rfl) ?_
              refine lv_if_eq (tgt := 1377) hx hb dL_law_1367 (by decide) (fun (c_11 : (nI oi) = 0) => ?_) (fun (c_11 : ¬ (nI oi) = 0) => ?_)
              · refine lv_iload hx hb dL_law_1377 (lv_at hl 1 rfl) ?_
                refine lv_goto (tgt := 1384) hx hb dL_law_1379 (by decide) ?_
                refine lv_istore (lv' := [(11, .int ((((distC (y 0) (jrem (u 0) 720)) + (distC (y 7) (jrem (u 0) 720))) + (distC (y 14) (jrem (u 0) 720))) + (distC (y 21) (jrem (u 0) 720)))), (10, .int b9), (15, .int ((((distC (y 0) (jrem (u 0) 720)) + (distC (y 7) (jrem (u 0) 720))) + (distC (y 14) (jrem (u 0) 720))) + (distC (y 21) (jrem (u 0) 720)))), (13, .ref q_1), (14, .ref q_2), (12, .int (nI oi)), (5, .int (nI ei)), (1, .ref (ad 8 0)), (2, .ref bf), (3, .ref bk), (4, .ref bt), (0, .ref b)]) hx hb dL_law_1384 hl (by decide) rfl (fun ls hl => ?_)
                refine lv_iinc (v := (nI (oi + 1))) (lv' := [(12, .int (nI (oi + 1))), (11, .int ((((distC (y 0) (jrem (u 0) 720)) + (distC (y 7) (jrem (u 0) 720))) + (distC (y 14) (jrem (u 0) 720))) + (distC (y 21) (jrem (u 0) 720)))), (10, .int b9), (15, .int ((((distC (y 0) (jrem (u 0) 720)) + (distC (y 7) (jrem (u 0) 720))) + (distC (y 14) (jrem (u 0) 720))) + (distC (y 21) (jrem (u 0) 720)))), (13, .ref q_1), (14, .ref q_2), (5, .int (nI ei)), (1, .ref (ad 8 0)), (2, .ref bf), (3, .ref bk), (4, .ref bt), (0, .ref b)]) hx hb dL_law_1386 hl (k := 5) rfl (nI_add _ 1) (by decide) rfl (fun ls hl => ?_)
                refine lv_goto (tgt := 1181) hx hb dL_law_1389 (by decide) ?_
                have hP := P_drop (a := LW g bf bk bt f k t) (b := [(q_1, .inl (g.2 0, 28, .inl y)), (q_2, .inl (g.2 0, 8, .inl u))]) hP
                have hD := D_drop (a := LW g bf bk bt f k t) (b := [(q_1, .inl (g.2 0, 28, .inl y)), (q_2, .inl (g.2 0, 8, .inl u))]) hD
                refine W.widen (k := cl + 2 * (oi + 1)) (n := sl + 36 * (oi + 1)) (by omega) (by omega) ?_
                exact ihO (oi + 1) b9 ((((distC (y 0) (jrem (u 0) 720)) + (distC (y 7) (jrem (u 0) 720))) + (distC (y 14) (jrem (u 0) 720))) + (distC (y 21) (jrem (u 0) 720))) (by omega) (by have q9 := bo_step hBO (by omega) hd9 hs8; simp only [if_neg c_7, if_pos c_10, if_pos c_11] at q9; exact q9) ls _ _ hP hD hS (lv_sub hl [0, 2, 1, 6, 7, 8, 9, 10, 11] rfl)
              · refine lv_iload hx hb dL_law_1370 (lv_at hl 1 rfl) ?_
                refine lv_iload hx hb dL_law_1372 (lv_at hl 5 rfl) ?_
                refine lv_icmp_ge (tgt := 1382) hx hb dL_law_1374 (by decide) (fun c_12 => ?_) (fun q9 => absurd (show u8 ≤ ((((distC (y 0) (jrem (u 0) 720)) + (distC (y 7) (jrem (u 0) 720))) + (distC (y 14) (jrem (u 0) 720))) + (distC (y 21) (jrem (u 0) 720))) from c_10) (show ¬ (u8 ≤ ((((distC (y 0) (jrem (u 0) 720)) + (distC (y 7) (jrem (u 0) 720))) + (distC (y 14) (jrem (u 0) 720))) + (distC (y 21) (jrem (u 0) 720)))) from q9))
                refine lv_iload hx hb dL_law_1382 (lv_at hl 5 rfl) ?_
                refine lv_istore (lv' := [(11, .int u8), (10, .int b9), (15, .int ((((distC (y 0) (jrem (u 0) 720)) + (distC (y 7) (jrem (u 0) 720))) + (distC (y 14) (jrem (u 0) 720))) + (distC (y 21) (jrem (u 0) 720)))), (13, .ref q_1), (14, .ref q_2), (12, .int (nI oi)), (5, .int (nI ei)), (1, .ref (ad 8 0)), (2, .ref bf), (3, .ref bk), (4, .ref bt), (0, .ref b)]) hx hb dL_law_1384 hl (by decide) rfl (fun ls hl => ?_)
                refine lv_iinc (v := (nI (oi + 1))) (lv' := [(12, .int (nI (oi + 1))), (11, .int u8), (10, .int b9), (15, .int ((((distC (y 0) (jrem (u 0) 720)) + (distC (y 7) (jrem (u 0) 720))) + (distC (y 14) (jrem (u 0) 720))) + (distC (y 21) (jrem (u 0) 720)))), (13, .ref q_1), (14, .ref q_2), (5, .int (nI ei)), (1, .ref (ad 8 0)), (2, .ref bf), (3, .ref bk), (4, .ref bt), (0, .ref b)]) hx hb dL_law_1386 hl (k := 5) rfl (nI_add _ 1) (by decide) rfl (fun ls hl => ?_)
                refine lv_goto (tgt := 1181) hx hb dL_law_1389 (by decide) ?_
                have hP := P_drop (a := LW g bf bk bt f k t) (b := [(q_1, .inl (g.2 0, 28, .inl y)), (q_2, .inl (g.2 0, 8, .inl u))]) hP
                have hD := D_drop (a := LW g bf bk bt f k t) (b := [(q_1, .inl (g.2 0, 28, .inl y)), (q_2, .inl (g.2 0, 8, .inl u))]) hD
                refine W.widen (k := cl + 2 * (oi + 1)) (n := sl + 36 * (oi + 1)) (by omega) (by omega) ?_
                exact ihO (oi + 1) b9 u8 (by omega) (by have q9 := bo_step hBO (by omega) hd9 hs8; simp only [if_neg c_7, if_pos c_10, if_neg c_11] at q9; exact q9) ls _ _ hP hD hS (lv_sub hl [0, 2, 1, 6, 7, 8, 9, 10, 11] rfl)
            · refine lv_iload hx hb dL_law_1356 (lv_at hl 3 rfl) ?_
              refine lv_goto (tgt := 1363) hx hb dL_law_1358 (by decide) ?_
              refine lv_istore (lv' := [(10, .int (nI oi)), (15, .int ((((distC (y 0) (jrem (u 0) 720)) + (distC (y 7) (jrem (u 0) 720))) + (distC (y 14) (jrem (u 0) 720))) + (distC (y 21) (jrem (u 0) 720)))), (13, .ref q_1), (14, .ref q_2), (12, .int (nI oi)), (11, .int u8), (5, .int (nI ei)), (1, .ref (ad 8 0)), (2, .ref bf), (3, .ref bk), (4, .ref bt), (0, .ref b)]) hx hb dL_law_1363 hl (by decide) rfl (fun ls hl => ?_)
              refine lv_iload hx hb dL_law_1365 (lv_at hl 4 rfl) ?_
              refine lv_if_eq (tgt := 1377) hx hb dL_law_1367 (by decide) (fun (c_13 : (nI oi) = 0) => ?_) (fun (c_13 : ¬ (nI oi) = 0) => ?_)
              · refine lv_iload hx hb dL_law_1377 (lv_at hl 1 rfl) ?_
                refine lv_goto (tgt := 1384) hx hb dL_law_1379 (by decide) ?_
                refine lv_istore (lv' := [(11, .int ((((distC (y 0) (jrem (u 0) 720)) + (distC (y 7) (jrem (u 0) 720))) + (distC (y 14) (jrem (u 0) 720))) + (distC (y 21) (jrem (u 0) 720)))), (10, .int (nI oi)), (15, .int ((((distC (y 0) (jrem (u 0) 720)) + (distC (y 7) (jrem (u 0) 720))) + (distC (y 14) (jrem (u 0) 720))) + (distC (y 21) (jrem (u 0) 720)))), (13, .ref q_1), (14, .ref q_2), (12, .int (nI oi)), (5, .int (nI ei)), (1, .ref (ad 8 0)), (2, .ref bf), (3, .ref bk), (4, .ref bt), (0, .ref b)]) hx hb dL_law_1384 hl (by decide) rfl (fun ls hl => ?_)
                refine lv_iinc (v := (nI (oi + 1))) (lv' := [(12, .int (nI (oi + 1))), (11, .int ((((distC (y 0) (jrem (u 0) 720)) + (distC (y 7) (jrem (u 0) 720))) + (distC (y 14) (jrem (u 0) 720))) + (distC (y 21) (jrem (u 0) 720)))), (10, .int (nI oi)), (15, .int ((((distC (y 0) (jrem (u 0) 720)) + (distC (y 7) (jrem (u 0) 720))) + (distC (y 14) (jrem (u 0) 720))) + (distC (y 21) (jrem (u 0) 720)))), (13, .ref q_1), (14, .ref q_2), (5, .int (nI ei)), (1, .ref (ad 8 0)), (2, .ref bf), (3, .ref bk), (4, .ref bt), (0, .ref b)]) hx hb dL_law_1386 hl (k := 5) rfl (nI_add _ 1) (by decide) rfl (fun ls hl => ?_)
                refine lv_goto (tgt := 1181) hx hb dL_law_1389 (by decide) ?_
                have hP := P_drop (a := LW g bf bk bt f k t) (b := [(q_1, .inl (g.2 0, 28, .inl y)), (q_2, .inl (g.2 0, 8, .inl u))]) hP
                have hD := D_drop (a := LW g bf bk bt f k t) (b := [(q_1, .inl (g.2 0, 28, .inl y)), (q_2, .inl (g.2 0, 8, .inl u))]) hD
                refine W.widen (k := cl + 2 * (oi + 1)) (n := sl + 36 * (oi + 1)) (by omega) (by omega) ?_
                exact ihO (oi + 1) (nI oi) ((((distC (y 0) (jrem (u 0) 720)) + (distC (y 7) (jrem (u 0) 720))) + (distC (y 14) (jrem (u 0) 720))) + (distC (y 21) (jrem (u 0) 720))) (by omega) (by have q9 := bo_step hBO (by omega) hd9 hs8; simp only [if_neg c_7, if_neg c_10, if_pos c_13] at q9; exact q9) ls _ _ hP hD hS (lv_sub hl [0, 2, 1, 6, 7, 8, 9, 10, 11] rfl)
              · refine lv_iload hx hb dL_law_1370 (lv_at hl 1 rfl) ?_
                refine lv_iload hx hb dL_law_1372 (lv_at hl 5 rfl) ?_
                refine lv_icmp_ge (tgt := 1382) hx hb dL_law_1374 (by decide) (fun q9 => absurd q9 (show ¬ u8 ≤ ((((distC (y 0) (jrem (u 0) 720)) + (distC (y 7) (jrem (u 0) 720))) + (distC (y 14) (jrem (u 0) 720))) + (distC (y 21) (jrem (u 0) 720))) from c_10)) (fun c_14 => ?_)
                refine lv_iload hx hb dL_law_1377 (lv_at hl 1 rfl) ?_
                refine lv_goto (tgt := 1384) hx hb dL_law_1379 (by decide) ?_
                refine lv_istore (lv' := [(11, .int ((((distC (y 0) (jrem (u 0) 720)) + (distC (y 7) (jrem (u 0) 720))) + (distC (y 14) (jrem (u 0) 720))) + (distC (y 21) (jrem (u 0) 720)))), (10, .int (nI oi)), (15, .int ((((distC (y 0) (jrem (u 0) 720)) + (distC (y 7) (jrem (u 0) 720))) + (distC (y 14) (jrem (u 0) 720))) + (distC (y 21) (jrem (u 0) 720)))), (13, .ref q_1), (14, .ref q_2), (12, .int (nI oi)), (5, .int (nI ei)), (1, .ref (ad 8 0)), (2, .ref bf), (3, .ref bk), (4, .ref bt), (0, .ref b)]) hx hb dL_law_1384 hl (by decide) rfl (fun ls hl => ?_)
                refine lv_iinc (v := (nI (oi + 1))) (lv' := [(12, .int (nI (oi + 1))), (11, .int ((((distC (y 0) (jrem (u 0) 720)) + (distC (y 7) (jrem (u 0) 720))) + (distC (y 14) (jrem (u 0) 720))) + (distC (y 21) (jrem (u 0) 720)))), (10, .int (nI oi)), (15, .int ((((distC (y 0) (jrem (u 0) 720)) + (distC (y 7) (jrem (u 0) 720))) + (distC (y 14) (jrem (u 0) 720))) + (distC (y 21) (jrem (u 0) 720)))), (13, .ref q_1), (14, .ref q_2), (5, .int (nI ei)), (1, .ref (ad 8 0)), (2, .ref bf), (3, .ref bk), (4, .ref bt), (0, .ref b)]) hx hb dL_law_1386 hl (k := 5) rfl (nI_add _ 1) (by decide) rfl (fun ls hl => ?_)
                refine lv_goto (tgt := 1181) hx hb dL_law_1389 (by decide) ?_
                have hP := P_drop (a := LW g bf bk bt f k t) (b := [(q_1, .inl (g.2 0, 28, .inl y)), (q_2, .inl (g.2 0, 8, .inl u))]) hP
                have hD := D_drop (a := LW g bf bk bt f k t) (b := [(q_1, .inl (g.2 0, 28, .inl y)), (q_2, .inl (g.2 0, 8, .inl u))]) hD
                refine W.widen (k := cl + 2 * (oi + 1)) (n := sl + 36 * (oi + 1)) (by omega) (by omega) ?_
                exact ihO (oi + 1) (nI oi) ((((distC (y 0) (jrem (u 0) 720)) + (distC (y 7) (jrem (u 0) 720))) + (distC (y 14) (jrem (u 0) 720))) + (distC (y 21) (jrem (u 0) 720))) (by omega) (by have q9 := bo_step hBO (by omega) hd9 hs8; simp only [if_neg c_7, if_neg c_10, if_neg c_13] at q9; exact q9) ls _ _ hP hD hS (lv_sub hl [0, 2, 1, 6, 7, 8, 9, 10, 11] rfl)
        | succ n ih =>
          intro mi y u xx u9 hmi hR hp ls H locs hP hD hS hl
          refine lv_iload hx hb dL_law_1253 (lv_at hl 0 rfl) ?_
          refine lv_sipush (v := 1440) hx hb dL_law_1255 (by decide) ?_
          refine lv_icmp_ge (tgt := 1276) hx hb dL_law_1258 (by decide) (fun q9 => absurd q9 (show ¬ 1440 ≤ (nI mi) from (nI_ge (b := 1440) (by omega) (by omega)))) (fun c_15 => ?_)
          refine lv_aload hx hb dL_law_1261 (lv_at hl 1 rfl) ?_
          refine lv_aload_n hx hb dL_law_1263 rfl (lv_at hl 9 rfl) ?_
          refine lv_aload hx hb dL_law_1264 (lv_at hl 2 rfl) ?_
          obtain ⟨w9, hn9, hR2, hu2⟩ := hR.min (by omega)
          refine x_goI (wn := [(bf, .inl (g.2 0, 28, .inl f)), (bk, .inl (g.2 0, 12, .inl k)), (bt, .inl (g.2 0, 8, .inl t)), (q_1, .inl (g.2 0, 28, .inl (lmF y k u w9))), (q_2, .inl (g.2 0, 8, .inl (lmT y k u w9)))] ++ (CW g ad q)) (x_rS (As := [.ref q_1, .ref bk, .ref q_2]) X (c_L_minute l g q_1 bk q_2 cn w9 y k u hn9 _) yf_L_minute ys_L_minute wM_L_90 ⟨Nat.le_of_ble_eq_true rfl, Nat.le_of_ble_eq_true rfl⟩ hP hD (cut2 (List.Perm.refl _) (wo_perm (ws' := [_, _, _] ++ [_, _]) 5 [3, 1, 4, 0, 2] rfl (by decide) rfl)) hl rfl rfl (Nat.le_of_ble_eq_true rfl) dL_law_1266 ⟨show cl + 2 * oi + 1 + 1 ≤ 600000 from by omega, show sl + 36 * oi + 28 + 8 ≤ 7302250 from by omega⟩) hP hD hS hA (cut2 (List.Perm.refl _) (wo_perm (ws' := [_, _, _] ++ [_, _]) 5 [3, 1, 4, 0, 2] rfl (by decide) rfl)) (back2 (wo_perm 5 [0, 3, 1, 2, 4] rfl (by decide) rfl) List.perm_append_comm) (fun H locs hP hD hS => ?_)
          refine lv_pop hx hb dL_law_1269 rfl ?_
          refine lv_iinc (v := (nI (mi + 1))) (lv' := [(15, .int (nI (mi + 1))), (13, .ref q_1), (14, .ref q_2), (12, .int (nI oi)), (10, .int b9), (11, .int u8), (5, .int (nI ei)), (1, .ref (ad 8 0)), (2, .ref bf), (3, .ref bk), (4, .ref bt), (0, .ref b)]) hx hb dL_law_1270 hl (k := 0) rfl (nI_add _ 1) (by decide) rfl (fun ls hl => ?_)
          refine lv_goto (tgt := 1253) hx hb dL_law_1273 (by decide) ?_
          exact ih (mi + 1) (lmF y k u w9) (lmT y k u w9) (minZ cn xx (cT q 1) (cT q 2) (cT q 3)) (u9 + minR (cT q 3) xx) (by omega) hR2 hp ls _ _ hP hD hS (lv_sub hl [0, 1, 2, 3, 4, 5, 6, 7, 8, 9, 10, 11] rfl)
      · refine lv_iconst (v := 1) hx hb dL_law_1243 (by decide) ?_
        refine lv_goto (tgt := 1248) hx hb dL_law_1244 (by decide) ?_
        refine lv_isub hx hb dL_law_1248 ?_
        refine x_iast (ws2 := [(bf, .inl (g.2 0, 28, .inl f)), (bk, .inl (g.2 0, 12, .inl k)), (bt, .inl (g.2 0, 8, .inl t)), (q_1, .inl (g.2 0, 28, .inl (upd (upd f ((7 * oi) + 2) 0) ((7 * oi) + 3) (((upd f ((7 * oi) + 2) 0) ((7 * oi) + 3)) - 1)))), (q_2, .inl (g.2 0, 8, .inl t))] ++ (CW g ad q)) X 3 ((7 * oi) + 3) hP hD hS rfl (z_add (z_mul rfl rfl) rfl) (by omega) (Nat.le_of_ble_eq_true rfl) rfl dL_law_1249 (fun H locs hP hD hS => ?_)
        have e3 : (upd f (7 * oi + 2) 0) (7 * oi + 3) = f (7 * oi + 3) := up_n (by omega)
        have ev : (((upd f ((7 * oi) + 2) 0) ((7 * oi) + 3)) - 1) = f (7 * oi + 3) - (if f (7 * oi + 3) ≤ 0 then 0 else 1) := by
          have c9 := c_5
          rw [e3] at c9
          rw [e3, if_neg c9]
        refine lv_iconst (v := 0) hx hb dL_law_1250 (by decide) ?_
        refine lv_istore (lv' := [(15, .int 0), (14, .ref q_2), (13, .ref q_1), (12, .int (nI oi)), (10, .int b9), (11, .int u8), (5, .int (nI ei)), (1, .ref (ad 8 0)), (2, .ref bf), (3, .ref bk), (4, .ref bt), (0, .ref b)]) hx hb dL_law_1251 hl (by decide) rfl (fun ls hl => ?_)
        suffices LP1253 : ∀ (n : Nat) (mi : Nat) (y : Nat → Int32) (u : Nat → Int32) (xx : Nat → Int32) (u9 : Int32), mi + n = nf → RTx (tm + mi) cn xx (cT q 1) (cT q 2) (cT q 3) u y k S R → pmsC cn (cT q 1) (cT q 2) (cT q 3) n xx u9 = pmsC cn (cT q 1) (cT q 2) (cT q 3) nf (oilC (8 + 7 * oi) (cT q 0)) 0 → ∀ (ls : Array Slot) (H : Heap) (locs : List Loc), va_P g.1 vwCl ([(bf, .inl (g.2 0, 28, .inl f)), (bk, .inl (g.2 0, 12, .inl k)), (bt, .inl (g.2 0, 8, .inl t)), (q_1, .inl (g.2 0, 28, .inl y)), (q_2, .inl (g.2 0, 8, .inl u))] ++ (CW g ad q)) H → va_D A ([(bf, .inl (g.2 0, 28, .inl f)), (bk, .inl (g.2 0, 12, .inl k)), (bt, .inl (g.2 0, 8, .inl t)), (q_1, .inl (g.2 0, 28, .inl y)), (q_2, .inl (g.2 0, 8, .inl u))] ++ (CW g ad q)) → va_S A s.heap H locs → lv_has ls 22 [(15, .int (nI mi)), (13, .ref q_1), (14, .ref q_2), (12, .int (nI oi)), (10, .int b9), (11, .int u8), (5, .int (nI ei)), (1, .ref (ad 8 0)), (2, .ref bf), (3, .ref bk), (4, .ref bt), (0, .ref b)] → W p l e room_1 s m #[Value.ref b] below meth c H locs (cl + 2 * oi + 1 + 1) (sl + 36 * oi + 28 + 8) (lw_Z below #[Value.ref b] s) (F0 m 1253 ls []) from LP1253 nf 0 (upd (upd f ((7 * oi) + 2) 0) ((7 * oi) + 3) (((upd f ((7 * oi) + 2) 0) ((7 * oi) + 3)) - 1)) t (oilC (8 + 7 * oi) (cT q 0)) 0 (Nat.zero_add _) (l_oilT h (show oi < 4 from by omega) ev) rfl ls _ _ hP hD hS (lv_sub hl [0, 2, 1, 3, 4, 5, 6, 7, 8, 9, 10, 11] rfl)
        intro n
        induction n with
        | zero =>
          intro mi y u xx u9 hmi hR hp ls H locs hP hD hS hl
          refine lv_iload hx hb dL_law_1253 (lv_at hl 0 rfl) ?_
          refine lv_sipush (v := 1440) hx hb dL_law_1255 (by decide) ?_
          refine lv_icmp_ge (tgt := 1276) hx hb dL_law_1258 (by decide) (fun c_16 => ?_) (fun q9 => absurd (show 1440 ≤ (nI mi) from (nI_le (a := 1440) (by omega) (by omega))) (show ¬ (1440 ≤ (nI mi)) from q9))
          refine lv_aload hx hb dL_law_1276 (lv_at hl 1 rfl) ?_
          refine lv_iconst (v := 0) hx hb dL_law_1278 (by decide) ?_
          refine x_iald (v := (y 0)) X 3 0 hP rfl rfl (by decide) (Nat.le_of_ble_eq_true rfl) rfl dL_law_1279 ?_
          refine lv_aload hx hb dL_law_1280 (lv_at hl 2 rfl) ?_
          refine lv_iconst (v := 0) hx hb dL_law_1282 (by decide) ?_
          refine x_iald (v := (u 0)) X 4 0 hP rfl rfl (by decide) (Nat.le_of_ble_eq_true rfl) rfl dL_law_1283 ?_
          refine lv_sipush (v := 720) hx hb dL_law_1284 (by decide) ?_
          refine lv_irem hx hb dL_law_1287 (by decide) ?_
          refine x_goI (wn := [(bf, .inl (g.2 0, 28, .inl f)), (bk, .inl (g.2 0, 12, .inl k)), (bt, .inl (g.2 0, 8, .inl t)), (q_1, .inl (g.2 0, 28, .inl y)), (q_2, .inl (g.2 0, 8, .inl u))] ++ (CW g ad q)) (x_rS (As := [.int (y 0), .int (jrem (u 0) 720)]) X (c_L_apart l g (y 0) (jrem (u 0) 720) (hR.fd 0 (by decide)) (hR.dt (by omega)) _) yf_L_apart ys_L_apart wM_L_20 ⟨Nat.le_of_ble_eq_true rfl, Nat.le_of_ble_eq_true rfl⟩ hP hD (p_none _) hl rfl rfl (Nat.le_of_ble_eq_true rfl) dL_law_1288 ⟨show cl + 2 * oi + 1 + 1 ≤ 600000 from by omega, show sl + 36 * oi + 28 + 8 ≤ 7302250 from by omega⟩) hP hD hS hA (p_none _) (p_noneB _) (fun H locs hP hD hS => ?_)
          refine lv_aload hx hb dL_law_1291 (lv_at hl 1 rfl) ?_
          refine lv_bipush (v := 7) hx hb dL_law_1293 (by decide) ?_
          refine x_iald (v := (y 7)) X 3 7 hP rfl rfl (by decide) (Nat.le_of_ble_eq_true rfl) rfl dL_law_1295 ?_
          refine lv_aload hx hb dL_law_1296 (lv_at hl 2 rfl) ?_
          refine lv_iconst (v := 0) hx hb dL_law_1298 (by decide) ?_
          refine x_iald (v := (u 0)) X 4 0 hP rfl rfl (by decide) (Nat.le_of_ble_eq_true rfl) rfl dL_law_1299 ?_
          refine lv_sipush (v := 720) hx hb dL_law_1300 (by decide) ?_
          refine lv_irem hx hb dL_law_1303 (by decide) ?_
          refine x_goI (wn := [(bf, .inl (g.2 0, 28, .inl f)), (bk, .inl (g.2 0, 12, .inl k)), (bt, .inl (g.2 0, 8, .inl t)), (q_1, .inl (g.2 0, 28, .inl y)), (q_2, .inl (g.2 0, 8, .inl u))] ++ (CW g ad q)) (x_rS (As := [.int (y 7), .int (jrem (u 0) 720)]) X (c_L_apart l g (y 7) (jrem (u 0) 720) (hR.fd 1 (by decide)) (hR.dt (by omega)) _) yf_L_apart ys_L_apart wM_L_20 ⟨Nat.le_of_ble_eq_true rfl, Nat.le_of_ble_eq_true rfl⟩ hP hD (p_none _) hl rfl rfl (Nat.le_of_ble_eq_true rfl) dL_law_1304 ⟨show cl + 2 * oi + 1 + 1 ≤ 600000 from by omega, show sl + 36 * oi + 28 + 8 ≤ 7302250 from by omega⟩) hP hD hS hA (p_none _) (p_noneB _) (fun H locs hP hD hS => ?_)
          refine lv_iadd hx hb dL_law_1307 ?_
          refine lv_aload hx hb dL_law_1308 (lv_at hl 1 rfl) ?_
          refine lv_bipush (v := 14) hx hb dL_law_1310 (by decide) ?_
          refine x_iald (v := (y 14)) X 3 14 hP rfl rfl (by decide) (Nat.le_of_ble_eq_true rfl) rfl dL_law_1312 ?_
          refine lv_aload hx hb dL_law_1313 (lv_at hl 2 rfl) ?_
          refine lv_iconst (v := 0) hx hb dL_law_1315 (by decide) ?_
          refine x_iald (v := (u 0)) X 4 0 hP rfl rfl (by decide) (Nat.le_of_ble_eq_true rfl) rfl dL_law_1316 ?_
          refine lv_sipush (v := 720) hx hb dL_law_1317 (by decide) ?_
          refine lv_irem hx hb dL_law_1320 (by decide) ?_
          refine x_goI (wn := [(bf, .inl (g.2 0, 28, .inl f)), (bk, .inl (g.2 0, 12, .inl k)), (bt, .inl (g.2 0, 8, .inl t)), (q_1, .inl (g.2 0, 28, .inl y)), (q_2, .inl (g.2 0, 8, .inl u))] ++ (CW g ad q)) (x_rS (As := [.int (y 14), .int (jrem (u 0) 720)]) X (c_L_apart l g (y 14) (jrem (u 0) 720) (hR.fd 2 (by decide)) (hR.dt (by omega)) _) yf_L_apart ys_L_apart wM_L_20 ⟨Nat.le_of_ble_eq_true rfl, Nat.le_of_ble_eq_true rfl⟩ hP hD (p_none _) hl rfl rfl (Nat.le_of_ble_eq_true rfl) dL_law_1321 ⟨show cl + 2 * oi + 1 + 1 ≤ 600000 from by omega, show sl + 36 * oi + 28 + 8 ≤ 7302250 from by omega⟩) hP hD hS hA (p_none _) (p_noneB _) (fun H locs hP hD hS => ?_)
          refine lv_iadd hx hb dL_law_1324 ?_
          refine lv_aload hx hb dL_law_1325 (lv_at hl 1 rfl) ?_
          refine lv_bipush (v := 21) hx hb dL_law_1327 (by decide) ?_
          refine x_iald (v := (y 21)) X 3 21 hP rfl rfl (by decide) (Nat.le_of_ble_eq_true rfl) rfl dL_law_1329 ?_
          refine lv_aload hx hb dL_law_1330 (lv_at hl 2 rfl) ?_
          refine lv_iconst (v := 0) hx hb dL_law_1332 (by decide) ?_
          refine x_iald (v := (u 0)) X 4 0 hP rfl rfl (by decide) (Nat.le_of_ble_eq_true rfl) rfl dL_law_1333 ?_
          refine lv_sipush (v := 720) hx hb dL_law_1334 (by decide) ?_
          refine lv_irem hx hb dL_law_1337 (by decide) ?_
          refine x_goI (wn := [(bf, .inl (g.2 0, 28, .inl f)), (bk, .inl (g.2 0, 12, .inl k)), (bt, .inl (g.2 0, 8, .inl t)), (q_1, .inl (g.2 0, 28, .inl y)), (q_2, .inl (g.2 0, 8, .inl u))] ++ (CW g ad q)) (x_rS (As := [.int (y 21), .int (jrem (u 0) 720)]) X (c_L_apart l g (y 21) (jrem (u 0) 720) (hR.fd 3 (by decide)) (hR.dt (by omega)) _) yf_L_apart ys_L_apart wM_L_20 ⟨Nat.le_of_ble_eq_true rfl, Nat.le_of_ble_eq_true rfl⟩ hP hD (p_none _) hl rfl rfl (Nat.le_of_ble_eq_true rfl) dL_law_1338 ⟨show cl + 2 * oi + 1 + 1 ≤ 600000 from by omega, show sl + 36 * oi + 28 + 8 ≤ 7302250 from by omega⟩) hP hD hS hA (p_none _) (p_noneB _) (fun H locs hP hD hS => ?_)
          refine lv_iadd hx hb dL_law_1341 ?_
          refine lv_istore (lv' := [(15, .int ((((distC (y 0) (jrem (u 0) 720)) + (distC (y 7) (jrem (u 0) 720))) + (distC (y 14) (jrem (u 0) 720))) + (distC (y 21) (jrem (u 0) 720)))), (13, .ref q_1), (14, .ref q_2), (12, .int (nI oi)), (10, .int b9), (11, .int u8), (5, .int (nI ei)), (1, .ref (ad 8 0)), (2, .ref bf), (3, .ref bk), (4, .ref bt), (0, .ref b)]) hx hb dL_law_1342 hl (by decide) rfl (fun ls hl => ?_)
          obtain ⟨hdf, hs9⟩ := l_df hR (by omega)
          have hd9 : ((((distC (y 0) (jrem (u 0) 720)) + (distC (y 7) (jrem (u 0) 720))) + (distC (y 14) (jrem (u 0) 720))) + (distC (y 21) (jrem (u 0) 720))) = dftC (eaZn q cn oi nf) := hdf.symm.trans (show dftC xx = dftC (eaZn q cn oi nf) from congrArg dftC (congrArg Prod.fst hp))
          have hs8 : ∃ s, s ≤ 1440 ∧ ((((distC (y 0) (jrem (u 0) 720)) + (distC (y 7) (jrem (u 0) 720))) + (distC (y 14) (jrem (u 0) 720))) + (distC (y 21) (jrem (u 0) 720))) = nI s := by rw [← hdf]; exact hs9
          refine lv_iload hx hb dL_law_1344 (lv_at hl 3 rfl) ?_
          refine lv_if_le (tgt := 1361) hx hb dL_law_1346 (by decide) (fun (c_17 : (nI oi) ≤ 0) => ?_) (fun (c_17 : ¬ (nI oi) ≤ 0) => ?_)
          · refine lv_iload hx hb dL_law_1361 (lv_at hl 4 rfl) ?_
            refine lv_istore (lv' := [(10, .int b9), (15, .int ((((distC (y 0) (jrem (u 0) 720)) + (distC (y 7) (jrem (u 0) 720))) + (distC (y 14) (jrem (u 0) 720))) + (distC (y 21) (jrem (u 0) 720)))), (13, .ref q_1), (14, .ref q_2), (12, .int (nI oi)), (11, .int u8), (5, .int (nI ei)), (1, .ref (ad 8 0)), (2, .ref bf), (3, .ref bk), (4, .ref bt), (0, .ref b)]) hx hb dL_law_1363 hl (by decide) rfl (fun ls hl => ?_)
            refine lv_iload hx hb dL_law_1365 (lv_at hl 4 rfl) ?_
            refine lv_if_eq (tgt := 1377) hx hb dL_law_1367 (by decide) (fun (c_18 : (nI oi) = 0) => ?_) (fun (c_18 : ¬ (nI oi) = 0) => ?_)
            · refine lv_iload hx hb dL_law_1377 (lv_at hl 1 rfl) ?_
              refine lv_goto (tgt := 1384) hx hb dL_law_1379 (by decide) ?_
              refine lv_istore (lv' := [(11, .int ((((distC (y 0) (jrem (u 0) 720)) + (distC (y 7) (jrem (u 0) 720))) + (distC (y 14) (jrem (u 0) 720))) + (distC (y 21) (jrem (u 0) 720)))), (10, .int b9), (15, .int ((((distC (y 0) (jrem (u 0) 720)) + (distC (y 7) (jrem (u 0) 720))) + (distC (y 14) (jrem (u 0) 720))) + (distC (y 21) (jrem (u 0) 720)))), (13, .ref q_1), (14, .ref q_2), (12, .int (nI oi)), (5, .int (nI ei)), (1, .ref (ad 8 0)), (2, .ref bf), (3, .ref bk), (4, .ref bt), (0, .ref b)]) hx hb dL_law_1384 hl (by decide) rfl (fun ls hl => ?_)
              refine lv_iinc (v := (nI (oi + 1))) (lv' := [(12, .int (nI (oi + 1))), (11, .int ((((distC (y 0) (jrem (u 0) 720)) + (distC (y 7) (jrem (u 0) 720))) + (distC (y 14) (jrem (u 0) 720))) + (distC (y 21) (jrem (u 0) 720)))), (10, .int b9), (15, .int ((((distC (y 0) (jrem (u 0) 720)) + (distC (y 7) (jrem (u 0) 720))) + (distC (y 14) (jrem (u 0) 720))) + (distC (y 21) (jrem (u 0) 720)))), (13, .ref q_1), (14, .ref q_2), (5, .int (nI ei)), (1, .ref (ad 8 0)), (2, .ref bf), (3, .ref bk), (4, .ref bt), (0, .ref b)]) hx hb dL_law_1386 hl (k := 5) rfl (nI_add _ 1) (by decide) rfl (fun ls hl => ?_)
              refine lv_goto (tgt := 1181) hx hb dL_law_1389 (by decide) ?_
              have hP := P_drop (a := LW g bf bk bt f k t) (b := [(q_1, .inl (g.2 0, 28, .inl y)), (q_2, .inl (g.2 0, 8, .inl u))]) hP
              have hD := D_drop (a := LW g bf bk bt f k t) (b := [(q_1, .inl (g.2 0, 28, .inl y)), (q_2, .inl (g.2 0, 8, .inl u))]) hD
              refine W.widen (k := cl + 2 * (oi + 1)) (n := sl + 36 * (oi + 1)) (by omega) (by omega) ?_
              exact ihO (oi + 1) b9 ((((distC (y 0) (jrem (u 0) 720)) + (distC (y 7) (jrem (u 0) 720))) + (distC (y 14) (jrem (u 0) 720))) + (distC (y 21) (jrem (u 0) 720))) (by omega) (by have q9 := bo_step hBO (by omega) hd9 hs8; simp only [if_pos c_17, if_pos c_18] at q9; exact q9) ls _ _ hP hD hS (lv_sub hl [0, 2, 1, 6, 7, 8, 9, 10, 11] rfl)
            · refine lv_iload hx hb dL_law_1370 (lv_at hl 1 rfl) ?_
              refine lv_iload hx hb dL_law_1372 (lv_at hl 5 rfl) ?_
              refine lv_icmp_ge (tgt := 1382) hx hb dL_law_1374 (by decide) (fun (c_19 : u8 ≤ ((((distC (y 0) (jrem (u 0) 720)) + (distC (y 7) (jrem (u 0) 720))) + (distC (y 14) (jrem (u 0) 720))) + (distC (y 21) (jrem (u 0) 720)))) => ?_) (fun (c_19 : ¬ u8 ≤ ((((distC (y 0) (jrem (u 0) 720)) + (distC (y 7) (jrem (u 0) 720))) + (distC (y 14) (jrem (u 0) 720))) + (distC (y 21) (jrem (u 0) 720)))) => ?_)
              · refine lv_iload hx hb dL_law_1382 (lv_at hl 5 rfl) ?_
                refine lv_istore (lv' := [(11, .int u8), (10, .int b9), (15, .int ((((distC (y 0) (jrem (u 0) 720)) + (distC (y 7) (jrem (u 0) 720))) + (distC (y 14) (jrem (u 0) 720))) + (distC (y 21) (jrem (u 0) 720)))), (13, .ref q_1), (14, .ref q_2), (12, .int (nI oi)), (5, .int (nI ei)), (1, .ref (ad 8 0)), (2, .ref bf), (3, .ref bk), (4, .ref bt), (0, .ref b)]) hx hb dL_law_1384 hl (by decide) rfl (fun ls hl => ?_)
                refine lv_iinc (v := (nI (oi + 1))) (lv' := [(12, .int (nI (oi + 1))), (11, .int u8), (10, .int b9), (15, .int ((((distC (y 0) (jrem (u 0) 720)) + (distC (y 7) (jrem (u 0) 720))) + (distC (y 14) (jrem (u 0) 720))) + (distC (y 21) (jrem (u 0) 720)))), (13, .ref q_1), (14, .ref q_2), (5, .int (nI ei)), (1, .ref (ad 8 0)), (2, .ref bf), (3, .ref bk), (4, .ref bt), (0, .ref b)]) hx hb dL_law_1386 hl (k := 5) rfl (nI_add _ 1) (by decide) rfl (fun ls hl => ?_)
                refine lv_goto (tgt := 1181) hx hb dL_law_1389 (by decide) ?_
                have hP := P_drop (a := LW g bf bk bt f k t) (b := [(q_1, .inl (g.2 0, 28, .inl y)), (q_2, .inl (g.2 0, 8, .inl u))]) hP
                have hD := D_drop (a := LW g bf bk bt f k t) (b := [(q_1, .inl (g.2 0, 28, .inl y)), (q_2, .inl (g.2 0, 8, .inl u))]) hD
                refine W.widen (k := cl + 2 * (oi + 1)) (n := sl + 36 * (oi + 1)) (by omega) (by omega) ?_
                exact ihO (oi + 1) b9 u8 (by omega) (by have q9 := bo_step hBO (by omega) hd9 hs8; simp only [if_pos c_17, if_neg c_18, if_pos c_19] at q9; exact q9) ls _ _ hP hD hS (lv_sub hl [0, 2, 1, 6, 7, 8, 9, 10, 11] rfl)
              · refine lv_iload hx hb dL_law_1377 (lv_at hl 1 rfl) ?_
                refine lv_goto (tgt := 1384) hx hb dL_law_1379 (by decide) ?_
                refine lv_istore (lv' := [(11, .int ((((distC (y 0) (jrem (u 0) 720)) + (distC (y 7) (jrem (u 0) 720))) + (distC (y 14) (jrem (u 0) 720))) + (distC (y 21) (jrem (u 0) 720)))), (10, .int b9), (15, .int ((((distC (y 0) (jrem (u 0) 720)) + (distC (y 7) (jrem (u 0) 720))) + (distC (y 14) (jrem (u 0) 720))) + (distC (y 21) (jrem (u 0) 720)))), (13, .ref q_1), (14, .ref q_2), (12, .int (nI oi)), (5, .int (nI ei)), (1, .ref (ad 8 0)), (2, .ref bf), (3, .ref bk), (4, .ref bt), (0, .ref b)]) hx hb dL_law_1384 hl (by decide) rfl (fun ls hl => ?_)
                refine lv_iinc (v := (nI (oi + 1))) (lv' := [(12, .int (nI (oi + 1))), (11, .int ((((distC (y 0) (jrem (u 0) 720)) + (distC (y 7) (jrem (u 0) 720))) + (distC (y 14) (jrem (u 0) 720))) + (distC (y 21) (jrem (u 0) 720)))), (10, .int b9), (15, .int ((((distC (y 0) (jrem (u 0) 720)) + (distC (y 7) (jrem (u 0) 720))) + (distC (y 14) (jrem (u 0) 720))) + (distC (y 21) (jrem (u 0) 720)))), (13, .ref q_1), (14, .ref q_2), (5, .int (nI ei)), (1, .ref (ad 8 0)), (2, .ref bf), (3, .ref bk), (4, .ref bt), (0, .ref b)]) hx hb dL_law_1386 hl (k := 5) rfl (nI_add _ 1) (by decide) rfl (fun ls hl => ?_)
                refine lv_goto (tgt := 1181) hx hb dL_law_1389 (by decide) ?_
                have hP := P_drop (a := LW g bf bk bt f k t) (b := [(q_1, .inl (g.2 0, 28, .inl y)), (q_2, .inl (g.2 0, 8, .inl u))]) hP
                have hD := D_drop (a := LW g bf bk bt f k t) (b := [(q_1, .inl (g.2 0, 28, .inl y)), (q_2, .inl (g.2 0, 8, .inl u))]) hD
                refine W.widen (k := cl + 2 * (oi + 1)) (n := sl + 36 * (oi + 1)) (by omega) (by omega) ?_
                exact ihO (oi + 1) b9 ((((distC (y 0) (jrem (u 0) 720)) + (distC (y 7) (jrem (u 0) 720))) + (distC (y 14) (jrem (u 0) 720))) + (distC (y 21) (jrem (u 0) 720))) (by omega) (by have q9 := bo_step hBO (by omega) hd9 hs8; simp only [if_pos c_17, if_neg c_18, if_neg c_19] at q9; exact q9) ls _ _ hP hD hS (lv_sub hl [0, 2, 1, 6, 7, 8, 9, 10, 11] rfl)
          · refine lv_iload hx hb dL_law_1349 (lv_at hl 0 rfl) ?_
            refine lv_iload hx hb dL_law_1351 (lv_at hl 5 rfl) ?_
            refine lv_icmp_ge (tgt := 1361) hx hb dL_law_1353 (by decide) (fun (c_20 : u8 ≤ ((((distC (y 0) (jrem (u 0) 720)) + (distC (y 7) (jrem (u 0) 720))) + (distC (y 14) (jrem (u 0) 720))) + (distC (y 21) (jrem (u 0) 720)))) => ?_) (fun (c_20 : ¬ u8 ≤ ((((distC (y 0) (jrem (u 0) 720)) + (distC (y 7) (jrem (u 0) 720))) + (distC (y 14) (jrem (u 0) 720))) + (distC (y 21) (jrem (u 0) 720)))) => ?_)
            · refine lv_iload hx hb dL_law_1361 (lv_at hl 4 rfl) ?_
              refine lv_istore (lv' := [(10, .int b9), (15, .int ((((distC (y 0) (jrem (u 0) 720)) + (distC (y 7) (jrem (u 0) 720))) + (distC (y 14) (jrem (u 0) 720))) + (distC (y 21) (jrem (u 0) 720)))), (13, .ref q_1), (14, .ref q_2), (12, .int (nI oi)), (11, .int u8), (5, .int (nI ei)), (1, .ref (ad 8 0)), (2, .ref bf), (3, .ref bk), (4, .ref bt), (0, .ref b)]) hx hb dL_law_1363 hl (by decide) rfl (fun ls hl => ?_)
              refine lv_iload hx hb dL_law_1365 (lv_at hl 4 rfl) ?_
              refine lv_if_eq (tgt := 1377) hx hb dL_law_1367 (by decide) (fun (c_21 : (nI oi) = 0) => ?_) (fun (c_21 : ¬ (nI oi) = 0) => ?_)
              · refine lv_iload hx hb dL_law_1377 (lv_at hl 1 rfl) ?_
                refine lv_goto (tgt := 1384) hx hb dL_law_1379 (by decide) ?_
                refine lv_istore (lv' := [(11, .int ((((distC (y 0) (jrem (u 0) 720)) + (distC (y 7) (jrem (u 0) 720))) + (distC (y 14) (jrem (u 0) 720))) + (distC (y 21) (jrem (u 0) 720)))), (10, .int b9), (15, .int ((((distC (y 0) (jrem (u 0) 720)) + (distC (y 7) (jrem (u 0) 720))) + (distC (y 14) (jrem (u 0) 720))) + (distC (y 21) (jrem (u 0) 720)))), (13, .ref q_1), (14, .ref q_2), (12, .int (nI oi)), (5, .int (nI ei)), (1, .ref (ad 8 0)), (2, .ref bf), (3, .ref bk), (4, .ref bt), (0, .ref b)]) hx hb dL_law_1384 hl (by decide) rfl (fun ls hl => ?_)
                refine lv_iinc (v := (nI (oi + 1))) (lv' := [(12, .int (nI (oi + 1))), (11, .int ((((distC (y 0) (jrem (u 0) 720)) + (distC (y 7) (jrem (u 0) 720))) + (distC (y 14) (jrem (u 0) 720))) + (distC (y 21) (jrem (u 0) 720)))), (10, .int b9), (15, .int ((((distC (y 0) (jrem (u 0) 720)) + (distC (y 7) (jrem (u 0) 720))) + (distC (y 14) (jrem (u 0) 720))) + (distC (y 21) (jrem (u 0) 720)))), (13, .ref q_1), (14, .ref q_2), (5, .int (nI ei)), (1, .ref (ad 8 0)), (2, .ref bf), (3, .ref bk), (4, .ref bt), (0, .ref b)]) hx hb dL_law_1386 hl (k := 5) rfl (nI_add _ 1) (by decide) rfl (fun ls hl => ?_)
                refine lv_goto (tgt := 1181) hx hb dL_law_1389 (by decide) ?_
                have hP := P_drop (a := LW g bf bk bt f k t) (b := [(q_1, .inl (g.2 0, 28, .inl y)), (q_2, .inl (g.2 0, 8, .inl u))]) hP
                have hD := D_drop (a := LW g bf bk bt f k t) (b := [(q_1, .inl (g.2 0, 28, .inl y)), (q_2, .inl (g.2 0, 8, .inl u))]) hD
                refine W.widen (k := cl + 2 * (oi + 1)) (n := sl + 36 * (oi + 1)) (by omega) (by omega) ?_
                exact ihO (oi + 1) b9 ((((distC (y 0) (jrem (u 0) 720)) + (distC (y 7) (jrem (u 0) 720))) + (distC (y 14) (jrem (u 0) 720))) + (distC (y 21) (jrem (u 0) 720))) (by omega) (by have q9 := bo_step hBO (by omega) hd9 hs8; simp only [if_neg c_17, if_pos c_20, if_pos c_21] at q9; exact q9) ls _ _ hP hD hS (lv_sub hl [0, 2, 1, 6, 7, 8, 9, 10, 11] rfl)
              · refine lv_iload hx hb dL_law_1370 (lv_at hl 1 rfl) ?_
                refine lv_iload hx hb dL_law_1372 (lv_at hl 5 rfl) ?_
                refine lv_icmp_ge (tgt := 1382) hx hb dL_law_1374 (by decide) (fun c_22 => ?_) (fun q9 => absurd (show u8 ≤ ((((distC (y 0) (jrem (u 0) 720)) + (distC (y 7) (jrem (u 0) 720))) + (distC (y 14) (jrem (u 0) 720))) + (distC (y 21) (jrem (u 0) 720))) from c_20) (show ¬ (u8 ≤ ((((distC (y 0) (jrem (u 0) 720)) + (distC (y 7) (jrem (u 0) 720))) + (distC (y 14) (jrem (u 0) 720))) + (distC (y 21) (jrem (u 0) 720)))) from q9))
                refine lv_iload hx hb dL_law_1382 (lv_at hl 5 rfl) ?_
                refine lv_istore (lv' := [(11, .int u8), (10, .int b9), (15, .int ((((distC (y 0) (jrem (u 0) 720)) + (distC (y 7) (jrem (u 0) 720))) + (distC (y 14) (jrem (u 0) 720))) + (distC (y 21) (jrem (u 0) 720)))), (13, .ref q_1), (14, .ref q_2), (12, .int (nI oi)), (5, .int (nI ei)), (1, .ref (ad 8 0)), (2, .ref bf), (3, .ref bk), (4, .ref bt), (0, .ref b)]) hx hb dL_law_1384 hl (by decide) rfl (fun ls hl => ?_)
                refine lv_iinc (v := (nI (oi + 1))) (lv' := [(12, .int (nI (oi + 1))), (11, .int u8), (10, .int b9), (15, .int ((((distC (y 0) (jrem (u 0) 720)) + (distC (y 7) (jrem (u 0) 720))) + (distC (y 14) (jrem (u 0) 720))) + (distC (y 21) (jrem (u 0) 720)))), (13, .ref q_1), (14, .ref q_2), (5, .int (nI ei)), (1, .ref (ad 8 0)), (2, .ref bf), (3, .ref bk), (4, .ref bt), (0, .ref b)]) hx hb dL_law_1386 hl (k := 5) rfl (nI_add _ 1) (by decide) rfl (fun ls hl => ?_)
                refine lv_goto (tgt := 1181) hx hb dL_law_1389 (by decide) ?_
                have hP := P_drop (a := LW g bf bk bt f k t) (b := [(q_1, .inl (g.2 0, 28, .inl y)), (q_2, .inl (g.2 0, 8, .inl u))]) hP
                have hD := D_drop (a := LW g bf bk bt f k t) (b := [(q_1, .inl (g.2 0, 28, .inl y)), (q_2, .inl (g.2 0, 8, .inl u))]) hD
                refine W.widen (k := cl + 2 * (oi + 1)) (n := sl + 36 * (oi + 1)) (by omega) (by omega) ?_
                exact ihO (oi + 1) b9 u8 (by omega) (by have q9 := bo_step hBO (by omega) hd9 hs8; simp only [if_neg c_17, if_pos c_20, if_neg c_21] at q9; exact q9) ls _ _ hP hD hS (lv_sub hl [0, 2, 1, 6, 7, 8, 9, 10, 11] rfl)
            · refine lv_iload hx hb dL_law_1356 (lv_at hl 3 rfl) ?_
              refine lv_goto (tgt := 1363) hx hb dL_law_1358 (by decide) ?_
              refine lv_istore (lv' := [(10, .int (nI oi)), (15, .int ((((distC (y 0) (jrem (u 0) 720)) + (distC (y 7) (jrem (u 0) 720))) + (distC (y 14) (jrem (u 0) 720))) + (distC (y 21) (jrem (u 0) 720)))), (13, .ref q_1), (14, .ref q_2), (12, .int (nI oi)), (11, .int u8), (5, .int (nI ei)), (1, .ref (ad 8 0)), (2, .ref bf), (3, .ref bk), (4, .ref bt), (0, .ref b)]) hx hb dL_law_1363 hl (by decide) rfl (fun ls hl => ?_)
              refine lv_iload hx hb dL_law_1365 (lv_at hl 4 rfl) ?_
              refine lv_if_eq (tgt := 1377) hx hb dL_law_1367 (by decide) (fun (c_23 : (nI oi) = 0) => ?_) (fun (c_23 : ¬ (nI oi) = 0) => ?_)
              · refine lv_iload hx hb dL_law_1377 (lv_at hl 1 rfl) ?_
                refine lv_goto (tgt := 1384) hx hb dL_law_1379 (by decide) ?_
                refine lv_istore (lv' := [(11, .int ((((distC (y 0) (jrem (u 0) 720)) + (distC (y 7) (jrem (u 0) 720))) + (distC (y 14) (jrem (u 0) 720))) + (distC (y 21) (jrem (u 0) 720)))), (10, .int (nI oi)), (15, .int ((((distC (y 0) (jrem (u 0) 720)) + (distC (y 7) (jrem (u 0) 720))) + (distC (y 14) (jrem (u 0) 720))) + (distC (y 21) (jrem (u 0) 720)))), (13, .ref q_1), (14, .ref q_2), (12, .int (nI oi)), (5, .int (nI ei)), (1, .ref (ad 8 0)), (2, .ref bf), (3, .ref bk), (4, .ref bt), (0, .ref b)]) hx hb dL_law_1384 hl (by decide) rfl (fun ls hl => ?_)
                refine lv_iinc (v := (nI (oi + 1))) (lv' := [(12, .int (nI (oi + 1))), (11, .int ((((distC (y 0) (jrem (u 0) 720)) + (distC (y 7) (jrem (u 0) 720))) + (distC (y 14) (jrem (u 0) 720))) + (distC (y 21) (jrem (u 0) 720)))), (10, .int (nI oi)), (15, .int ((((distC (y 0) (jrem (u 0) 720)) + (distC (y 7) (jrem (u 0) 720))) + (distC (y 14) (jrem (u 0) 720))) + (distC (y 21) (jrem (u 0) 720)))), (13, .ref q_1), (14, .ref q_2), (5, .int (nI ei)), (1, .ref (ad 8 0)), (2, .ref bf), (3, .ref bk), (4, .ref bt), (0, .ref b)]) hx hb dL_law_1386 hl (k := 5) rfl (nI_add _ 1) (by decide) rfl (fun ls hl => ?_)
                refine lv_goto (tgt := 1181) hx hb dL_law_1389 (by decide) ?_
                have hP := P_drop (a := LW g bf bk bt f k t) (b := [(q_1, .inl (g.2 0, 28, .inl y)), (q_2, .inl (g.2 0, 8, .inl u))]) hP
                have hD := D_drop (a := LW g bf bk bt f k t) (b := [(q_1, .inl (g.2 0, 28, .inl y)), (q_2, .inl (g.2 0, 8, .inl u))]) hD
                refine W.widen (k := cl + 2 * (oi + 1)) (n := sl + 36 * (oi + 1)) (by omega) (by omega) ?_
                exact ihO (oi + 1) (nI oi) ((((distC (y 0) (jrem (u 0) 720)) + (distC (y 7) (jrem (u 0) 720))) + (distC (y 14) (jrem (u 0) 720))) + (distC (y 21) (jrem (u 0) 720))) (by omega) (by have q9 := bo_step hBO (by omega) hd9 hs8; simp only [if_neg c_17, if_neg c_20, if_pos c_23] at q9; exact q9) ls _ _ hP hD hS (lv_sub hl [0, 2, 1, 6, 7, 8, 9, 10, 11] rfl)
              · refine lv_iload hx hb dL_law_1370 (lv_at hl 1 rfl) ?_
                refine lv_iload hx hb dL_law_1372 (lv_at hl 5 rfl) ?_
                refine lv_icmp_ge (tgt := 1382) hx hb dL_law_1374 (by decide) (fun q9 => absurd q9 (show ¬ u8 ≤ ((((distC (y 0) (jrem (u 0) 720)) + (distC (y 7) (jrem (u 0) 720))) + (distC (y 14) (jrem (u 0) 720))) + (distC (y 21) (jrem (u 0) 720))) from c_20)) (fun c_24 => ?_)
                refine lv_iload hx hb dL_law_1377 (lv_at hl 1 rfl) ?_
                refine lv_goto (tgt := 1384) hx hb dL_law_1379 (by decide) ?_
                refine lv_istore (lv' := [(11, .int ((((distC (y 0) (jrem (u 0) 720)) + (distC (y 7) (jrem (u 0) 720))) + (distC (y 14) (jrem (u 0) 720))) + (distC (y 21) (jrem (u 0) 720)))), (10, .int (nI oi)), (15, .int ((((distC (y 0) (jrem (u 0) 720)) + (distC (y 7) (jrem (u 0) 720))) + (distC (y 14) (jrem (u 0) 720))) + (distC (y 21) (jrem (u 0) 720)))), (13, .ref q_1), (14, .ref q_2), (12, .int (nI oi)), (5, .int (nI ei)), (1, .ref (ad 8 0)), (2, .ref bf), (3, .ref bk), (4, .ref bt), (0, .ref b)]) hx hb dL_law_1384 hl (by decide) rfl (fun ls hl => ?_)
                refine lv_iinc (v := (nI (oi + 1))) (lv' := [(12, .int (nI (oi + 1))), (11, .int ((((distC (y 0) (jrem (u 0) 720)) + (distC (y 7) (jrem (u 0) 720))) + (distC (y 14) (jrem (u 0) 720))) + (distC (y 21) (jrem (u 0) 720)))), (10, .int (nI oi)), (15, .int ((((distC (y 0) (jrem (u 0) 720)) + (distC (y 7) (jrem (u 0) 720))) + (distC (y 14) (jrem (u 0) 720))) + (distC (y 21) (jrem (u 0) 720)))), (13, .ref q_1), (14, .ref q_2), (5, .int (nI ei)), (1, .ref (ad 8 0)), (2, .ref bf), (3, .ref bk), (4, .ref bt), (0, .ref b)]) hx hb dL_law_1386 hl (k := 5) rfl (nI_add _ 1) (by decide) rfl (fun ls hl => ?_)
                refine lv_goto (tgt := 1181) hx hb dL_law_1389 (by decide) ?_
                have hP := P_drop (a := LW g bf bk bt f k t) (b := [(q_1, .inl (g.2 0, 28, .inl y)), (q_2, .inl (g.2 0, 8, .inl u))]) hP
                have hD := D_drop (a := LW g bf bk bt f k t) (b := [(q_1, .inl (g.2 0, 28, .inl y)), (q_2, .inl (g.2 0, 8, .inl u))]) hD
                refine W.widen (k := cl + 2 * (oi + 1)) (n := sl + 36 * (oi + 1)) (by omega) (by omega) ?_
                exact ihO (oi + 1) (nI oi) ((((distC (y 0) (jrem (u 0) 720)) + (distC (y 7) (jrem (u 0) 720))) + (distC (y 14) (jrem (u 0) 720))) + (distC (y 21) (jrem (u 0) 720))) (by omega) (by have q9 := bo_step hBO (by omega) hd9 hs8; simp only [if_neg c_17, if_neg c_20, if_neg c_23] at q9; exact q9) ls _ _ hP hD hS (lv_sub hl [0, 2, 1, 6, 7, 8, 9, 10, 11] rfl)
        | succ n ih =>
          intro mi y u xx u9 hmi hR hp ls H locs hP hD hS hl
          refine lv_iload hx hb dL_law_1253 (lv_at hl 0 rfl) ?_
          refine lv_sipush (v := 1440) hx hb dL_law_1255 (by decide) ?_
          refine lv_icmp_ge (tgt := 1276) hx hb dL_law_1258 (by decide) (fun q9 => absurd q9 (show ¬ 1440 ≤ (nI mi) from (nI_ge (b := 1440) (by omega) (by omega)))) (fun c_25 => ?_)
          refine lv_aload hx hb dL_law_1261 (lv_at hl 1 rfl) ?_
          refine lv_aload_n hx hb dL_law_1263 rfl (lv_at hl 9 rfl) ?_
          refine lv_aload hx hb dL_law_1264 (lv_at hl 2 rfl) ?_
          obtain ⟨w9, hn9, hR2, hu2⟩ := hR.min (by omega)
          refine x_goI (wn := [(bf, .inl (g.2 0, 28, .inl f)), (bk, .inl (g.2 0, 12, .inl k)), (bt, .inl (g.2 0, 8, .inl t)), (q_1, .inl (g.2 0, 28, .inl (lmF y k u w9))), (q_2, .inl (g.2 0, 8, .inl (lmT y k u w9)))] ++ (CW g ad q)) (x_rS (As := [.ref q_1, .ref bk, .ref q_2]) X (c_L_minute l g q_1 bk q_2 cn w9 y k u hn9 _) yf_L_minute ys_L_minute wM_L_90 ⟨Nat.le_of_ble_eq_true rfl, Nat.le_of_ble_eq_true rfl⟩ hP hD (cut2 (List.Perm.refl _) (wo_perm (ws' := [_, _, _] ++ [_, _]) 5 [3, 1, 4, 0, 2] rfl (by decide) rfl)) hl rfl rfl (Nat.le_of_ble_eq_true rfl) dL_law_1266 ⟨show cl + 2 * oi + 1 + 1 ≤ 600000 from by omega, show sl + 36 * oi + 28 + 8 ≤ 7302250 from by omega⟩) hP hD hS hA (cut2 (List.Perm.refl _) (wo_perm (ws' := [_, _, _] ++ [_, _]) 5 [3, 1, 4, 0, 2] rfl (by decide) rfl)) (back2 (wo_perm 5 [0, 3, 1, 2, 4] rfl (by decide) rfl) List.perm_append_comm) (fun H locs hP hD hS => ?_)
          refine lv_pop hx hb dL_law_1269 rfl ?_
          refine lv_iinc (v := (nI (mi + 1))) (lv' := [(15, .int (nI (mi + 1))), (13, .ref q_1), (14, .ref q_2), (12, .int (nI oi)), (10, .int b9), (11, .int u8), (5, .int (nI ei)), (1, .ref (ad 8 0)), (2, .ref bf), (3, .ref bk), (4, .ref bt), (0, .ref b)]) hx hb dL_law_1270 hl (k := 0) rfl (nI_add _ 1) (by decide) rfl (fun ls hl => ?_)
          refine lv_goto (tgt := 1253) hx hb dL_law_1273 (by decide) ?_
          exact ih (mi + 1) (lmF y k u w9) (lmT y k u w9) (minZ cn xx (cT q 1) (cT q 2) (cT q 3)) (u9 + minR (cT q 3) xx) (by omega) hR2 hp ls _ _ hP hD hS (lv_sub hl [0, 1, 2, 3, 4, 5, 6, 7, 8, 9, 10, 11] rfl)


theorem ix_t0 (k : Nat) : 3 * nI k = nI (3 * k) := by rw [show (3 : Int32) = nI 3 from rfl, pk_mul]
theorem ix_t1 (k : Nat) : (3 * nI k) + 1 = nI (3 * k + 1) := by rw [ix_t0, nI_1]
theorem ix_t2 (k : Nat) : (3 * nI k) + 2 = nI (3 * k + 2) := by rw [ix_t0, show (2 : Int32) = nI 2 from rfl, nI_add]
def sgM (x : Int32) : Int32 := if x = 45 then -1 else 1
def okM (x : Int32) : Int32 := if x = 45 then 1 else if x = 43 then 1 else 0
def rwG (r : MS) (O : RI) (u : Nat × Int32) : MS := (mZ r, mP r, mK r, mA r, mB r, O, mM r, mI r, mY r, mT r + 1, u.1, u.2)
abbrev rwA (r : MS) : Nat × Int32 := wtM 1 (uM r)
def rwF1 (r : MS) : Nat × Int32 := figU (mB r) (mY r) 3 (rwA r)
def rwF2 (r : MS) : Nat × Int32 := clkU (mB r) (mY r) (rwF1 r)
def rwK1 (r : MS) : Nat × Int32 := clkU (mB r) (mY r) (rwA r)
def rw6 (r : MS) : Int32 := ltM (mB r) (mY r) (rwK1 r).1
def rwK2 (r : MS) : Nat × Int32 := wtM (okM (rw6 r)) (rwK1 r)
def rwNk (r : MS) : Nat × Int32 := numP (mB r) (mY r) 0 30 (rwK2 r)
def rwNw (r : MS) : Nat × Int32 := numP (mB r) (mY r) 1 2000 (rwA r)
def rwO (r : MS) : RI := upd (mO r) (3 * mT r) (ltM (mB r) (mY r) (mS r))
def rwM (r : MS) : MS :=
  if ltM (mB r) (mY r) (mS r) = 102 then rwG r (upd (upd (rwO r) (3 * mT r + 1) (fgM (mB r) (mY r) (rwA r).1)) (3 * mT r + 2) (jrem (clkV (mB r) (mY r) (rwF1 r)) 720)) (rwF2 r)
  else if ltM (mB r) (mY r) (mS r) = 107 then rwG r (upd (upd (rwO r) (3 * mT r + 1) (clkV (mB r) (mY r) (rwA r))) (3 * mT r + 2) (sgM (rw6 r) * (rwNk r).2)) ((rwNk r).1, (nuU (mB r) (mY r) 0 (rwK2 r)).2)
  else if ltM (mB r) (mY r) (mS r) = 119 then rwG r (upd (rwO r) (3 * mT r + 1) (rwNw r).2) ((rwNw r).1, (nuU (mB r) (mY r) 1 (rwA r)).2)
  else if ltM (mB r) (mY r) (mS r) = 111 then rwG r (upd (rwO r) (3 * mT r + 1) (fgM (mB r) (mY r) (rwA r).1)) (rwF1 r)
  else if ltM (mB r) (mY r) (mS r) = 98 then rwG r (upd (rwO r) (3 * mT r + 1) (fgM (mB r) (mY r) (rwA r).1)) (rwF1 r)
  else rwG r (rwO r) (wtM 0 (uM r))
set_option maxHeartbeats 4000000 in
set_option maxRecDepth 100000 in
theorem c_X6_readWork (l : Launch) (g : wG) (o : Nat → Nat) (r : MS) (hy6 : mY r ≤ 60) (hs : mS r < 800) (hT : mT r ≤ 20) : CtV l g 3 yX6_readWork cX6_readWork 4 none [.ref (o 0)] (MW g o r) (MW g o (rwM r)) := by
  intro sz
  refine x_enter (Qc := fun A => QV g A (MW g o (rwM r))) (by decide) (Nat.le_of_ble_eq_true rfl) ?_
  intro p e s m args below meth c X hr hlocks A hA hP hD hS ls hl
  obtain ⟨⟨hx, hb, hml, hown, hts⟩, hK, hN⟩ := id X
  have hl : lv_has ls 4 [(0, .ref (o 0))] := hl
  refine lv_aload_n hx hb dX6_readWork_0 rfl (lv_at hl 0 rfl) ?_
  refine x_goI (wn := MW g o r) (x_rV (As := []) X (c_X6_letter l g o r hy6 (show mS r < 2 ^ 31 from by omega)  _) yf_X6_letter yi_X6_letter wM_X6_141 ⟨Nat.le_of_ble_eq_true rfl, Nat.le_of_ble_eq_true rfl⟩ hP hD (p_all _) 0 rfl rfl hl rfl rfl (Nat.le_of_ble_eq_true rfl) dX6_readWork_1 ⟨Nat.zero_le _, Nat.zero_le _⟩) hP hD hS hA (p_all _) (p_back _) (fun H locs hP hD hS => ?_)
  refine lv_istore_n (lv' := [(1, .int (ltM (mB r) (mY r) (mS r))), (0, .ref (o 0))]) hx hb dX6_readWork_4 rfl hl (by decide) rfl (fun ls hl => ?_)
  refine lv_aload_n hx hb dX6_readWork_5 rfl (lv_at hl 1 rfl) ?_
  refine lv_iload_n hx hb dX6_readWork_6 rfl (lv_at hl 0 rfl) ?_
  refine lv_bipush (v := 102) hx hb dX6_readWork_7 (by decide) ?_
  refine lv_icmp_eq (tgt := 36) hx hb dX6_readWork_9 (by decide) (fun (c_1 : (ltM (mB r) (mY r) (mS r)) = 102) => ?_) (fun (c_1 : ¬ (ltM (mB r) (mY r) (mS r)) = 102) => ?_)
  · refine lv_iconst (v := 1) hx hb dX6_readWork_36 (by decide) ?_
    refine lv_goto (tgt := 41) hx hb dX6_readWork_37 (by decide) ?_
    refine x_goV (wn := MW g o ((mZ r), (mP r), (mK r), (mA r), (mB r), (mO r), (mM r), (mI r), (mY r), (mT r), ((wtM 1 (uM r)).1), ((wtM 1 (uM r)).2))) (x_rV (As := [.int 1]) X (c_X6_wants l g o r  1 _) yf_X6_wants yi_X6_wants wM_X6_144 ⟨Nat.le_of_ble_eq_true rfl, Nat.le_of_ble_eq_true rfl⟩ hP hD (p_all _) 0 rfl rfl hl rfl rfl (Nat.le_of_ble_eq_true rfl) dX6_readWork_41 ⟨Nat.zero_le _, Nat.zero_le _⟩) hP hD hS hA (p_all _) (p_back _) (fun H locs hP hD hS => ?_)
    refine lv_iconst (v := 3) hx hb dX6_readWork_44 (by decide) ?_
    refine lv_aload_n hx hb dX6_readWork_45 rfl (lv_at hl 1 rfl) ?_
    refine x_get (v := .int (nI (mT r))) X 0 9 in_X6 hP rfl rfl (by decide) wF_X6_151 rfl rfl dX6_readWork_46 ?_
    refine lv_imul hx hb dX6_readWork_49 ?_
    refine lv_istore_n (lv' := [(2, .int (3 * (nI (mT r)))), (1, .int (ltM (mB r) (mY r) (mS r))), (0, .ref (o 0))]) hx hb dX6_readWork_50 rfl hl (by decide) rfl (fun ls hl => ?_)
    refine lv_aload_n hx hb dX6_readWork_51 rfl (lv_at hl 2 rfl) ?_
    refine x_get (v := .ref (o 6)) X 0 8 in_X6 hP rfl rfl (by decide) wF_X6_26 rfl rfl dX6_readWork_52 ?_
    refine lv_iload_n hx hb dX6_readWork_55 rfl (lv_at hl 0 rfl) ?_
    refine lv_iload_n hx hb dX6_readWork_56 rfl (lv_at hl 1 rfl) ?_
    refine x_iast (ws2 := MW g o ((mZ r), (mP r), (mK r), (mA r), (mB r), (upd (mO r) (3 * mT r) (ltM (mB r) (mY r) (mS r))), (mM r), (mI r), (mY r), (mT r), ((wtM 1 (uM r)).1), ((wtM 1 (uM r)).2))) X 6 (3 * mT r) hP hD hS rfl (ix_t0 _) (by omega) (Nat.le_of_ble_eq_true rfl) rfl dX6_readWork_57 (fun H locs hP hD hS => ?_)
    refine lv_iload_n hx hb dX6_readWork_58 rfl (lv_at hl 1 rfl) ?_
    refine lv_bipush (v := 102) hx hb dX6_readWork_59 (by decide) ?_
    refine lv_icmp_eq (tgt := 76) hx hb dX6_readWork_61 (by decide) (fun c_2 => ?_) (fun q9 => absurd (show (ltM (mB r) (mY r) (mS r)) = 102 from c_1) (show ¬ ((ltM (mB r) (mY r) (mS r)) = 102) from q9))
    refine lv_aload_n hx hb dX6_readWork_76 rfl (lv_at hl 2 rfl) ?_
    refine x_get (v := .ref (o 6)) X 0 8 in_X6 hP rfl rfl (by decide) wF_X6_26 rfl rfl dX6_readWork_77 ?_
    refine lv_iload_n hx hb dX6_readWork_80 rfl (lv_at hl 0 rfl) ?_
    refine lv_iconst (v := 1) hx hb dX6_readWork_81 (by decide) ?_
    refine lv_iadd hx hb dX6_readWork_82 ?_
    refine lv_aload_n hx hb dX6_readWork_83 rfl (lv_at hl 2 rfl) ?_
    refine lv_iconst (v := 3) hx hb dX6_readWork_84 (by decide) ?_
    refine x_goI (wn := MW g o ((mZ r), (mP r), (mK r), (mA r), (mB r), (upd (mO r) (3 * mT r) (ltM (mB r) (mY r) (mS r))), (mM r), (mI r), (mY r), (mT r), ((figU (mB r) (mY r) 3 (wtM 1 (uM r))).1), ((figU (mB r) (mY r) 3 (wtM 1 (uM r))).2))) (x_rV (As := [.int 3]) X (c_X6_figure l g o ((mZ r), (mP r), (mK r), (mA r), (mB r), (upd (mO r) (3 * mT r) (ltM (mB r) (mY r) (mS r))), (mM r), (mI r), (mY r), (mT r), ((wtM 1 (uM r)).1), ((wtM 1 (uM r)).2)) hy6 (show (wtM 1 (uM r)).1 < 1000 from by have q1 := wt_le 1 (uM r); have q0 : (uM r).1 = mS r := rfl; omega) 3  _) yf_X6_figure yi_X6_figure wM_X6_148 ⟨Nat.le_of_ble_eq_true rfl, Nat.le_of_ble_eq_true rfl⟩ hP hD (p_all _) 0 rfl rfl hl rfl rfl (Nat.le_of_ble_eq_true rfl) dX6_readWork_85 ⟨Nat.zero_le _, Nat.zero_le _⟩) hP hD hS hA (p_all _) (p_back _) (fun H locs hP hD hS => ?_)
    refine x_iast (ws2 := MW g o ((mZ r), (mP r), (mK r), (mA r), (mB r), (upd (upd (mO r) (3 * mT r) (ltM (mB r) (mY r) (mS r))) (3 * mT r + 1) (fgM (mB r) (mY r) (wtM 1 (uM r)).1)), (mM r), (mI r), (mY r), (mT r), ((figU (mB r) (mY r) 3 (wtM 1 (uM r))).1), ((figU (mB r) (mY r) 3 (wtM 1 (uM r))).2))) X 6 (3 * mT r + 1) hP hD hS rfl (ix_t1 _) (by omega) (Nat.le_of_ble_eq_true rfl) rfl dX6_readWork_88 (fun H locs hP hD hS => ?_)
    refine lv_iload_n hx hb dX6_readWork_89 rfl (lv_at hl 1 rfl) ?_
    refine lv_bipush (v := 102) hx hb dX6_readWork_90 (by decide) ?_
    refine lv_icmp_ne (tgt := 111) hx hb dX6_readWork_92 (by decide) (fun q9 => absurd (show (ltM (mB r) (mY r) (mS r)) = 102 from c_1) q9) (fun c_3 => ?_)
    refine lv_aload_n hx hb dX6_readWork_95 rfl (lv_at hl 2 rfl) ?_
    refine x_get (v := .ref (o 6)) X 0 8 in_X6 hP rfl rfl (by decide) wF_X6_26 rfl rfl dX6_readWork_96 ?_
    refine lv_iload_n hx hb dX6_readWork_99 rfl (lv_at hl 0 rfl) ?_
    refine lv_iconst (v := 2) hx hb dX6_readWork_100 (by decide) ?_
    refine lv_iadd hx hb dX6_readWork_101 ?_
    refine lv_aload_n hx hb dX6_readWork_102 rfl (lv_at hl 2 rfl) ?_
    refine x_goI (wn := MW g o ((mZ r), (mP r), (mK r), (mA r), (mB r), (upd (upd (mO r) (3 * mT r) (ltM (mB r) (mY r) (mS r))) (3 * mT r + 1) (fgM (mB r) (mY r) (wtM 1 (uM r)).1)), (mM r), (mI r), (mY r), (mT r), ((clkU (mB r) (mY r) (figU (mB r) (mY r) 3 (wtM 1 (uM r)))).1), ((clkU (mB r) (mY r) (figU (mB r) (mY r) 3 (wtM 1 (uM r)))).2))) (x_rV (As := []) X (c_X6_clock l g o ((mZ r), (mP r), (mK r), (mA r), (mB r), (upd (upd (mO r) (3 * mT r) (ltM (mB r) (mY r) (mS r))) (3 * mT r + 1) (fgM (mB r) (mY r) (wtM 1 (uM r)).1)), (mM r), (mI r), (mY r), (mT r), ((figU (mB r) (mY r) 3 (wtM 1 (uM r))).1), ((figU (mB r) (mY r) 3 (wtM 1 (uM r))).2)) hy6 (show (figU (mB r) (mY r) 3 (wtM 1 (uM r))).1 < 900 from by have q1 := wt_le 1 (uM r); have q2 := fig_le (mB r) (mY r) 3 (wtM 1 (uM r)); have q0 : (uM r).1 = mS r := rfl; omega)  _) yf_X6_clock yi_X6_clock wM_X6_154 ⟨Nat.le_of_ble_eq_true rfl, Nat.le_of_ble_eq_true rfl⟩ hP hD (p_all _) 0 rfl rfl hl rfl rfl (Nat.le_of_ble_eq_true rfl) dX6_readWork_103 ⟨Nat.zero_le _, Nat.zero_le _⟩) hP hD hS hA (p_all _) (p_back _) (fun H locs hP hD hS => ?_)
    refine lv_sipush (v := 720) hx hb dX6_readWork_106 (by decide) ?_
    refine lv_irem hx hb dX6_readWork_109 (by decide) ?_
    refine x_iast (ws2 := MW g o ((mZ r), (mP r), (mK r), (mA r), (mB r), (upd (upd (upd (mO r) (3 * mT r) (ltM (mB r) (mY r) (mS r))) (3 * mT r + 1) (fgM (mB r) (mY r) (wtM 1 (uM r)).1)) (3 * mT r + 2) (jrem (clkV (mB r) (mY r) (figU (mB r) (mY r) 3 (wtM 1 (uM r)))) 720)), (mM r), (mI r), (mY r), (mT r), ((clkU (mB r) (mY r) (figU (mB r) (mY r) 3 (wtM 1 (uM r)))).1), ((clkU (mB r) (mY r) (figU (mB r) (mY r) 3 (wtM 1 (uM r)))).2))) X 6 (3 * mT r + 2) hP hD hS rfl (ix_t2 _) (by omega) (Nat.le_of_ble_eq_true rfl) rfl dX6_readWork_110 (fun H locs hP hD hS => ?_)
    refine lv_iload_n hx hb dX6_readWork_111 rfl (lv_at hl 1 rfl) ?_
    refine lv_bipush (v := 107) hx hb dX6_readWork_112 (by decide) ?_
    refine lv_icmp_ne (tgt := 188) hx hb dX6_readWork_114 (by decide) (fun c_4 => ?_) (fun q9 => absurd (show (ltM (mB r) (mY r) (mS r)) = 107 from q9) (show ¬ (ltM (mB r) (mY r) (mS r)) = 107 from (fun q8 => absurd (c_1.symm.trans q8) (by decide))))
    refine lv_iload_n hx hb dX6_readWork_188 rfl (lv_at hl 1 rfl) ?_
    refine lv_bipush (v := 119) hx hb dX6_readWork_189 (by decide) ?_
    refine lv_icmp_ne (tgt := 210) hx hb dX6_readWork_191 (by decide) (fun c_5 => ?_) (fun q9 => absurd (show (ltM (mB r) (mY r) (mS r)) = 119 from q9) (show ¬ (ltM (mB r) (mY r) (mS r)) = 119 from (fun q8 => absurd (c_1.symm.trans q8) (by decide))))
    refine lv_aload_n hx hb dX6_readWork_210 rfl (lv_at hl 2 rfl) ?_
    refine lv_dup hx hb dX6_readWork_211 rfl ?_
    refine x_get (v := .int (nI (mT r))) X 0 9 in_X6 hP rfl rfl (by decide) wF_X6_151 rfl rfl dX6_readWork_212 ?_
    refine lv_iconst (v := 1) hx hb dX6_readWork_215 (by decide) ?_
    refine lv_iadd hx hb dX6_readWork_216 ?_
    refine W.eq (g2 := F0 m 217 ls [.int (nI ((mT r) + 1)), .ref (o 0)]) (by rw [nI_1]) ?_
    refine x_put (v := .int (nI ((mT r) + 1))) (ty0 := tyX6) (ws2 := MW g o ((mZ r), (mP r), (mK r), (mA r), (mB r), (upd (upd (upd (mO r) (3 * mT r) (ltM (mB r) (mY r) (mS r))) (3 * mT r + 1) (fgM (mB r) (mY r) (wtM 1 (uM r)).1)) (3 * mT r + 2) (jrem (clkV (mB r) (mY r) (figU (mB r) (mY r) 3 (wtM 1 (uM r)))) 720)), (mM r), (mI r), (mY r), ((mT r) + 1), ((clkU (mB r) (mY r) (figU (mB r) (mY r) 3 (wtM 1 (uM r)))).1), ((clkU (mB r) (mY r) (figU (mB r) (mY r) 3 (wtM 1 (uM r)))).2))) X 0 9 in_X6 tyX6_ok nmX6 hP hD hS rfl rfl (by decide) wF_X6_151 rfl rfl rfl rfl (Nat.le_of_ble_eq_true rfl) rfl dX6_readWork_217 (fun H locs hP hD hS => ?_)
    have E : (MW g o ((mZ r), (mP r), (mK r), (mA r), (mB r), (upd (upd (upd (mO r) (3 * mT r) (ltM (mB r) (mY r) (mS r))) (3 * mT r + 1) (fgM (mB r) (mY r) (wtM 1 (uM r)).1)) (3 * mT r + 2) (jrem (clkV (mB r) (mY r) (figU (mB r) (mY r) 3 (wtM 1 (uM r)))) 720)), (mM r), (mI r), (mY r), ((mT r) + 1), ((clkU (mB r) (mY r) (figU (mB r) (mY r) 3 (wtM 1 (uM r)))).1), ((clkU (mB r) (mY r) (figU (mB r) (mY r) 3 (wtM 1 (uM r)))).2)) : va_W) = MW g o (rwM r) := by (simp only [rwM, if_pos c_1]) <;> rfl
    exact x_vret X hr hlocks (pw E hP) (dw E hD) hS dX6_readWork_220
  · refine lv_iload_n hx hb dX6_readWork_12 rfl (lv_at hl 0 rfl) ?_
    refine lv_bipush (v := 107) hx hb dX6_readWork_13 (by decide) ?_
    refine lv_icmp_eq (tgt := 36) hx hb dX6_readWork_15 (by decide) (fun (c_6 : (ltM (mB r) (mY r) (mS r)) = 107) => ?_) (fun (c_6 : ¬ (ltM (mB r) (mY r) (mS r)) = 107) => ?_)
    · refine lv_iconst (v := 1) hx hb dX6_readWork_36 (by decide) ?_
      refine lv_goto (tgt := 41) hx hb dX6_readWork_37 (by decide) ?_
      refine x_goV (wn := MW g o ((mZ r), (mP r), (mK r), (mA r), (mB r), (mO r), (mM r), (mI r), (mY r), (mT r), ((wtM 1 (uM r)).1), ((wtM 1 (uM r)).2))) (x_rV (As := [.int 1]) X (c_X6_wants l g o r  1 _) yf_X6_wants yi_X6_wants wM_X6_144 ⟨Nat.le_of_ble_eq_true rfl, Nat.le_of_ble_eq_true rfl⟩ hP hD (p_all _) 0 rfl rfl hl rfl rfl (Nat.le_of_ble_eq_true rfl) dX6_readWork_41 ⟨Nat.zero_le _, Nat.zero_le _⟩) hP hD hS hA (p_all _) (p_back _) (fun H locs hP hD hS => ?_)
      refine lv_iconst (v := 3) hx hb dX6_readWork_44 (by decide) ?_
      refine lv_aload_n hx hb dX6_readWork_45 rfl (lv_at hl 1 rfl) ?_
      refine x_get (v := .int (nI (mT r))) X 0 9 in_X6 hP rfl rfl (by decide) wF_X6_151 rfl rfl dX6_readWork_46 ?_
      refine lv_imul hx hb dX6_readWork_49 ?_
      refine lv_istore_n (lv' := [(2, .int (3 * (nI (mT r)))), (1, .int (ltM (mB r) (mY r) (mS r))), (0, .ref (o 0))]) hx hb dX6_readWork_50 rfl hl (by decide) rfl (fun ls hl => ?_)
      refine lv_aload_n hx hb dX6_readWork_51 rfl (lv_at hl 2 rfl) ?_
      refine x_get (v := .ref (o 6)) X 0 8 in_X6 hP rfl rfl (by decide) wF_X6_26 rfl rfl dX6_readWork_52 ?_
      refine lv_iload_n hx hb dX6_readWork_55 rfl (lv_at hl 0 rfl) ?_
      refine lv_iload_n hx hb dX6_readWork_56 rfl (lv_at hl 1 rfl) ?_
      refine x_iast (ws2 := MW g o ((mZ r), (mP r), (mK r), (mA r), (mB r), (upd (mO r) (3 * mT r) (ltM (mB r) (mY r) (mS r))), (mM r), (mI r), (mY r), (mT r), ((wtM 1 (uM r)).1), ((wtM 1 (uM r)).2))) X 6 (3 * mT r) hP hD hS rfl (ix_t0 _) (by omega) (Nat.le_of_ble_eq_true rfl) rfl dX6_readWork_57 (fun H locs hP hD hS => ?_)
      refine lv_iload_n hx hb dX6_readWork_58 rfl (lv_at hl 1 rfl) ?_
      refine lv_bipush (v := 102) hx hb dX6_readWork_59 (by decide) ?_
      refine lv_icmp_eq (tgt := 76) hx hb dX6_readWork_61 (by decide) (fun q9 => absurd q9 (show ¬ (ltM (mB r) (mY r) (mS r)) = 102 from (fun q8 => absurd (c_6.symm.trans q8) (by decide)))) (fun c_7 => ?_)
      refine lv_iload_n hx hb dX6_readWork_64 rfl (lv_at hl 1 rfl) ?_
      refine lv_bipush (v := 111) hx hb dX6_readWork_65 (by decide) ?_
      refine lv_icmp_eq (tgt := 76) hx hb dX6_readWork_67 (by decide) (fun q9 => absurd q9 (show ¬ (ltM (mB r) (mY r) (mS r)) = 111 from (fun q8 => absurd (c_6.symm.trans q8) (by decide)))) (fun c_8 => ?_)
      refine lv_iload_n hx hb dX6_readWork_70 rfl (lv_at hl 1 rfl) ?_
      refine lv_bipush (v := 98) hx hb dX6_readWork_71 (by decide) ?_
      refine lv_icmp_ne (tgt := 89) hx hb dX6_readWork_73 (by decide) (fun c_9 => ?_) (fun q9 => absurd (show (ltM (mB r) (mY r) (mS r)) = 98 from q9) (show ¬ (ltM (mB r) (mY r) (mS r)) = 98 from (fun q8 => absurd (c_6.symm.trans q8) (by decide))))
      refine lv_iload_n hx hb dX6_readWork_89 rfl (lv_at hl 1 rfl) ?_
      refine lv_bipush (v := 102) hx hb dX6_readWork_90 (by decide) ?_
      refine lv_icmp_ne (tgt := 111) hx hb dX6_readWork_92 (by decide) (fun c_10 => ?_) (fun q9 => absurd (show (ltM (mB r) (mY r) (mS r)) = 102 from q9) (show ¬ (ltM (mB r) (mY r) (mS r)) = 102 from (fun q8 => absurd (c_6.symm.trans q8) (by decide))))
      refine lv_iload_n hx hb dX6_readWork_111 rfl (lv_at hl 1 rfl) ?_
      refine lv_bipush (v := 107) hx hb dX6_readWork_112 (by decide) ?_
      refine lv_icmp_ne (tgt := 188) hx hb dX6_readWork_114 (by decide) (fun q9 => absurd (show (ltM (mB r) (mY r) (mS r)) = 107 from c_6) q9) (fun c_11 => ?_)
      refine lv_aload_n hx hb dX6_readWork_117 rfl (lv_at hl 2 rfl) ?_
      refine x_get (v := .ref (o 6)) X 0 8 in_X6 hP rfl rfl (by decide) wF_X6_26 rfl rfl dX6_readWork_118 ?_
      refine lv_iload_n hx hb dX6_readWork_121 rfl (lv_at hl 0 rfl) ?_
      refine lv_iconst (v := 1) hx hb dX6_readWork_122 (by decide) ?_
      refine lv_iadd hx hb dX6_readWork_123 ?_
      refine lv_aload_n hx hb dX6_readWork_124 rfl (lv_at hl 2 rfl) ?_
      refine x_goI (wn := MW g o ((mZ r), (mP r), (mK r), (mA r), (mB r), (upd (mO r) (3 * mT r) (ltM (mB r) (mY r) (mS r))), (mM r), (mI r), (mY r), (mT r), ((clkU (mB r) (mY r) (wtM 1 (uM r))).1), ((clkU (mB r) (mY r) (wtM 1 (uM r))).2))) (x_rV (As := []) X (c_X6_clock l g o ((mZ r), (mP r), (mK r), (mA r), (mB r), (upd (mO r) (3 * mT r) (ltM (mB r) (mY r) (mS r))), (mM r), (mI r), (mY r), (mT r), ((wtM 1 (uM r)).1), ((wtM 1 (uM r)).2)) hy6 (show (wtM 1 (uM r)).1 < 900 from by have q1 := wt_le 1 (uM r); have q0 : (uM r).1 = mS r := rfl; omega)  _) yf_X6_clock yi_X6_clock wM_X6_154 ⟨Nat.le_of_ble_eq_true rfl, Nat.le_of_ble_eq_true rfl⟩ hP hD (p_all _) 0 rfl rfl hl rfl rfl (Nat.le_of_ble_eq_true rfl) dX6_readWork_125 ⟨Nat.zero_le _, Nat.zero_le _⟩) hP hD hS hA (p_all _) (p_back _) (fun H locs hP hD hS => ?_)
      refine x_iast (ws2 := MW g o ((mZ r), (mP r), (mK r), (mA r), (mB r), (upd (upd (mO r) (3 * mT r) (ltM (mB r) (mY r) (mS r))) (3 * mT r + 1) (clkV (mB r) (mY r) (wtM 1 (uM r)))), (mM r), (mI r), (mY r), (mT r), ((clkU (mB r) (mY r) (wtM 1 (uM r))).1), ((clkU (mB r) (mY r) (wtM 1 (uM r))).2))) X 6 (3 * mT r + 1) hP hD hS rfl (ix_t1 _) (by omega) (Nat.le_of_ble_eq_true rfl) rfl dX6_readWork_128 (fun H locs hP hD hS => ?_)
      obtain ⟨u1, hc1⟩ : ∃ u1 : Nat × Int32, u1 = (clkU (mB r) (mY r) (wtM 1 (uM r))) := ⟨_, rfl⟩
      have hk1 : u1 = rwK1 r := hc1
      have hu1 : u1.1 ≤ mS r + 6 := by have q1 := wt_le 1 (uM r); have q2 := clk_le (mB r) (mY r) (rwA r); have q0 : (uM r).1 = mS r := rfl; rw [hc1]; exact Nat.le_trans q2 (Nat.add_le_add_right q1 5)
      have hP : va_P g.1 vwCl (MW g o ((mZ r), (mP r), (mK r), (mA r), (mB r), (upd (upd (mO r) (3 * mT r) (ltM (mB r) (mY r) (mS r))) (3 * mT r + 1) (clkV (mB r) (mY r) (wtM 1 (uM r)))), (mM r), (mI r), (mY r), (mT r), u1.1, u1.2)) H := by rw [hc1]; exact hP
      have hD : va_D A (MW g o ((mZ r), (mP r), (mK r), (mA r), (mB r), (upd (upd (mO r) (3 * mT r) (ltM (mB r) (mY r) (mS r))) (3 * mT r + 1) (clkV (mB r) (mY r) (wtM 1 (uM r)))), (mM r), (mI r), (mY r), (mT r), u1.1, u1.2)) := by rw [hc1]; exact hD
      have e6 : rw6 r = ltM (mB r) (mY r) u1.1 := by unfold rw6; rw [← hk1]
      refine lv_aload_n hx hb dX6_readWork_129 rfl (lv_at hl 2 rfl) ?_
      refine x_goI (wn := MW g o ((mZ r), (mP r), (mK r), (mA r), (mB r), (upd (upd (mO r) (3 * mT r) (ltM (mB r) (mY r) (mS r))) (3 * mT r + 1) (clkV (mB r) (mY r) (wtM 1 (uM r)))), (mM r), (mI r), (mY r), (mT r), u1.1, u1.2)) (x_rV (As := []) X (c_X6_letter l g o ((mZ r), (mP r), (mK r), (mA r), (mB r), (upd (upd (mO r) (3 * mT r) (ltM (mB r) (mY r) (mS r))) (3 * mT r + 1) (clkV (mB r) (mY r) (wtM 1 (uM r)))), (mM r), (mI r), (mY r), (mT r), u1.1, u1.2) hy6 (show u1.1 < 2 ^ 31 from by omega)  _) yf_X6_letter yi_X6_letter wM_X6_141 ⟨Nat.le_of_ble_eq_true rfl, Nat.le_of_ble_eq_true rfl⟩ hP hD (p_all _) 0 rfl rfl hl rfl rfl (Nat.le_of_ble_eq_true rfl) dX6_readWork_130 ⟨Nat.zero_le _, Nat.zero_le _⟩) hP hD hS hA (p_all _) (p_back _) (fun H locs hP hD hS => ?_)
      refine lv_bipush (v := 45) hx hb dX6_readWork_133 (by decide) ?_
      refine lv_icmp_ne (tgt := 142) hx hb dX6_readWork_135 (by decide) (fun (c_12 : ¬ (ltM (mB r) (mY r) u1.1) = 45) => ?_) (fun (c_12 : (ltM (mB r) (mY r) u1.1) = 45) => ?_)
      · refine lv_iconst (v := 1) hx hb dX6_readWork_142 (by decide) ?_
        refine lv_istore_n (lv' := [(3, .int 1), (2, .int (3 * (nI (mT r)))), (1, .int (ltM (mB r) (mY r) (mS r))), (0, .ref (o 0))]) hx hb dX6_readWork_143 rfl hl (by decide) rfl (fun ls hl => ?_)
        refine lv_aload_n hx hb dX6_readWork_144 rfl (lv_at hl 3 rfl) ?_
        refine lv_aload_n hx hb dX6_readWork_145 rfl (lv_at hl 3 rfl) ?_
        refine x_goI (wn := MW g o ((mZ r), (mP r), (mK r), (mA r), (mB r), (upd (upd (mO r) (3 * mT r) (ltM (mB r) (mY r) (mS r))) (3 * mT r + 1) (clkV (mB r) (mY r) (wtM 1 (uM r)))), (mM r), (mI r), (mY r), (mT r), u1.1, u1.2)) (x_rV (As := []) X (c_X6_letter l g o ((mZ r), (mP r), (mK r), (mA r), (mB r), (upd (upd (mO r) (3 * mT r) (ltM (mB r) (mY r) (mS r))) (3 * mT r + 1) (clkV (mB r) (mY r) (wtM 1 (uM r)))), (mM r), (mI r), (mY r), (mT r), u1.1, u1.2) hy6 (show u1.1 < 2 ^ 31 from by omega)  _) yf_X6_letter yi_X6_letter wM_X6_141 ⟨Nat.le_of_ble_eq_true rfl, Nat.le_of_ble_eq_true rfl⟩ hP hD (p_all _) 0 rfl rfl hl rfl rfl (Nat.le_of_ble_eq_true rfl) dX6_readWork_146 ⟨Nat.zero_le _, Nat.zero_le _⟩) hP hD hS hA (p_all _) (p_back _) (fun H locs hP hD hS => ?_)
        refine lv_bipush (v := 43) hx hb dX6_readWork_149 (by decide) ?_
        refine lv_icmp_eq (tgt := 163) hx hb dX6_readWork_151 (by decide) (fun (c_13 : (ltM (mB r) (mY r) u1.1) = 43) => ?_) (fun (c_13 : ¬ (ltM (mB r) (mY r) u1.1) = 43) => ?_)
        · refine lv_iconst (v := 1) hx hb dX6_readWork_163 (by decide) ?_
          refine lv_goto (tgt := 168) hx hb dX6_readWork_164 (by decide) ?_
          refine x_goV (wn := MW g o ((mZ r), (mP r), (mK r), (mA r), (mB r), (upd (upd (mO r) (3 * mT r) (ltM (mB r) (mY r) (mS r))) (3 * mT r + 1) (clkV (mB r) (mY r) (wtM 1 (uM r)))), (mM r), (mI r), (mY r), (mT r), ((wtM 1 u1).1), ((wtM 1 u1).2))) (x_rV (As := [.int 1]) X (c_X6_wants l g o ((mZ r), (mP r), (mK r), (mA r), (mB r), (upd (upd (mO r) (3 * mT r) (ltM (mB r) (mY r) (mS r))) (3 * mT r + 1) (clkV (mB r) (mY r) (wtM 1 (uM r)))), (mM r), (mI r), (mY r), (mT r), u1.1, u1.2)  1 _) yf_X6_wants yi_X6_wants wM_X6_144 ⟨Nat.le_of_ble_eq_true rfl, Nat.le_of_ble_eq_true rfl⟩ hP hD (p_all _) 0 rfl rfl hl rfl rfl (Nat.le_of_ble_eq_true rfl) dX6_readWork_168 ⟨Nat.zero_le _, Nat.zero_le _⟩) hP hD hS hA (p_all _) (p_back _) (fun H locs hP hD hS => ?_)
          refine lv_aload_n hx hb dX6_readWork_171 rfl (lv_at hl 3 rfl) ?_
          refine x_get (v := .ref (o 6)) X 0 8 in_X6 hP rfl rfl (by decide) wF_X6_26 rfl rfl dX6_readWork_172 ?_
          refine lv_iload_n hx hb dX6_readWork_175 rfl (lv_at hl 1 rfl) ?_
          refine lv_iconst (v := 2) hx hb dX6_readWork_176 (by decide) ?_
          refine lv_iadd hx hb dX6_readWork_177 ?_
          refine lv_iload_n hx hb dX6_readWork_178 rfl (lv_at hl 0 rfl) ?_
          refine lv_aload_n hx hb dX6_readWork_179 rfl (lv_at hl 3 rfl) ?_
          refine lv_iconst (v := 0) hx hb dX6_readWork_180 (by decide) ?_
          refine lv_bipush (v := 30) hx hb dX6_readWork_181 (by decide) ?_
          refine x_goI (wn := MW g o ((mZ r), (mP r), (mK r), (mA r), (mB r), (upd (upd (mO r) (3 * mT r) (ltM (mB r) (mY r) (mS r))) (3 * mT r + 1) (clkV (mB r) (mY r) (wtM 1 (uM r)))), (mM r), (mI r), (mY r), (mT r), ((numP (mB r) (mY r) 0 30 (wtM 1 u1)).1), ((nuU (mB r) (mY r) 0 (wtM 1 u1)).2))) (x_rV (As := [.int 0, .int 30]) X (c_X6_number_k l g o ((mZ r), (mP r), (mK r), (mA r), (mB r), (upd (upd (mO r) (3 * mT r) (ltM (mB r) (mY r) (mS r))) (3 * mT r + 1) (clkV (mB r) (mY r) (wtM 1 (uM r)))), (mM r), (mI r), (mY r), (mT r), ((wtM 1 u1).1), ((wtM 1 u1).2)) hy6 (show (wtM 1 u1).1 < 1000 from by have q1 := wt_le 1 u1; have q0 : (uM r).1 = mS r := rfl; omega)  _) yf_X6_number yi_X6_number wM_X6_157 ⟨Nat.le_of_ble_eq_true rfl, Nat.le_of_ble_eq_true rfl⟩ hP hD (p_all _) 0 rfl rfl hl rfl rfl (Nat.le_of_ble_eq_true rfl) dX6_readWork_183 ⟨Nat.zero_le _, Nat.zero_le _⟩) hP hD hS hA (p_all _) (p_back _) (fun H locs hP hD hS => ?_)
          refine lv_imul hx hb dX6_readWork_186 ?_
          refine x_iast (ws2 := MW g o ((mZ r), (mP r), (mK r), (mA r), (mB r), (upd (upd (upd (mO r) (3 * mT r) (ltM (mB r) (mY r) (mS r))) (3 * mT r + 1) (clkV (mB r) (mY r) (wtM 1 (uM r)))) (3 * mT r + 2) (1 * ((numP (mB r) (mY r) 0 30 (wtM 1 u1)).2))), (mM r), (mI r), (mY r), (mT r), ((numP (mB r) (mY r) 0 30 (wtM 1 u1)).1), ((nuU (mB r) (mY r) 0 (wtM 1 u1)).2))) X 6 (3 * mT r + 2) hP hD hS rfl (ix_t2 _) (by omega) (Nat.le_of_ble_eq_true rfl) rfl dX6_readWork_187 (fun H locs hP hD hS => ?_)
          refine lv_iload_n hx hb dX6_readWork_188 rfl (lv_at hl 2 rfl) ?_
          refine lv_bipush (v := 119) hx hb dX6_readWork_189 (by decide) ?_
          refine lv_icmp_ne (tgt := 210) hx hb dX6_readWork_191 (by decide) (fun c_14 => ?_) (fun q9 => absurd (show (ltM (mB r) (mY r) (mS r)) = 119 from q9) (show ¬ (ltM (mB r) (mY r) (mS r)) = 119 from (fun q8 => absurd (c_6.symm.trans q8) (by decide))))
          refine lv_aload_n hx hb dX6_readWork_210 rfl (lv_at hl 3 rfl) ?_
          refine lv_dup hx hb dX6_readWork_211 rfl ?_
          refine x_get (v := .int (nI (mT r))) X 0 9 in_X6 hP rfl rfl (by decide) wF_X6_151 rfl rfl dX6_readWork_212 ?_
          refine lv_iconst (v := 1) hx hb dX6_readWork_215 (by decide) ?_
          refine lv_iadd hx hb dX6_readWork_216 ?_
          refine W.eq (g2 := F0 m 217 ls [.int (nI ((mT r) + 1)), .ref (o 0)]) (by rw [nI_1]) ?_
          refine x_put (v := .int (nI ((mT r) + 1))) (ty0 := tyX6) (ws2 := MW g o ((mZ r), (mP r), (mK r), (mA r), (mB r), (upd (upd (upd (mO r) (3 * mT r) (ltM (mB r) (mY r) (mS r))) (3 * mT r + 1) (clkV (mB r) (mY r) (wtM 1 (uM r)))) (3 * mT r + 2) (1 * ((numP (mB r) (mY r) 0 30 (wtM 1 u1)).2))), (mM r), (mI r), (mY r), ((mT r) + 1), ((numP (mB r) (mY r) 0 30 (wtM 1 u1)).1), ((nuU (mB r) (mY r) 0 (wtM 1 u1)).2))) X 0 9 in_X6 tyX6_ok nmX6 hP hD hS rfl rfl (by decide) wF_X6_151 rfl rfl rfl rfl (Nat.le_of_ble_eq_true rfl) rfl dX6_readWork_217 (fun H locs hP hD hS => ?_)
          have es : sgM (rw6 r) = 1 := by simp only [sgM, if_neg (fun q7 => c_12 (e6.symm.trans q7))]
          have ek : okM (rw6 r) = 1 := by simp only [okM, if_neg (fun q7 => c_12 (e6.symm.trans q7)), if_pos (e6.trans c_13)]
          have E : (MW g o ((mZ r), (mP r), (mK r), (mA r), (mB r), (upd (upd (upd (mO r) (3 * mT r) (ltM (mB r) (mY r) (mS r))) (3 * mT r + 1) (clkV (mB r) (mY r) (wtM 1 (uM r)))) (3 * mT r + 2) (1 * ((numP (mB r) (mY r) 0 30 (wtM 1 u1)).2))), (mM r), (mI r), (mY r), ((mT r) + 1), ((numP (mB r) (mY r) 0 30 (wtM 1 u1)).1), ((nuU (mB r) (mY r) 0 (wtM 1 u1)).2)) : va_W) = MW g o (rwM r) := by (simp only [rwM, rwNk, rwK2, if_neg c_1, if_pos c_6]; rw [es, ek, ← hk1]) <;> rfl
          exact x_vret X hr hlocks (pw E hP) (dw E hD) hS dX6_readWork_220
        · refine lv_aload_n hx hb dX6_readWork_154 rfl (lv_at hl 3 rfl) ?_
          refine x_goI (wn := MW g o ((mZ r), (mP r), (mK r), (mA r), (mB r), (upd (upd (mO r) (3 * mT r) (ltM (mB r) (mY r) (mS r))) (3 * mT r + 1) (clkV (mB r) (mY r) (wtM 1 (uM r)))), (mM r), (mI r), (mY r), (mT r), u1.1, u1.2)) (x_rV (As := []) X (c_X6_letter l g o ((mZ r), (mP r), (mK r), (mA r), (mB r), (upd (upd (mO r) (3 * mT r) (ltM (mB r) (mY r) (mS r))) (3 * mT r + 1) (clkV (mB r) (mY r) (wtM 1 (uM r)))), (mM r), (mI r), (mY r), (mT r), u1.1, u1.2) hy6 (show u1.1 < 2 ^ 31 from by omega)  _) yf_X6_letter yi_X6_letter wM_X6_141 ⟨Nat.le_of_ble_eq_true rfl, Nat.le_of_ble_eq_true rfl⟩ hP hD (p_all _) 0 rfl rfl hl rfl rfl (Nat.le_of_ble_eq_true rfl) dX6_readWork_155 ⟨Nat.zero_le _, Nat.zero_le _⟩) hP hD hS hA (p_all _) (p_back _) (fun H locs hP hD hS => ?_)
          refine lv_bipush (v := 45) hx hb dX6_readWork_158 (by decide) ?_
          refine lv_icmp_ne (tgt := 167) hx hb dX6_readWork_160 (by decide) (fun c_15 => ?_) (fun q9 => absurd (show (ltM (mB r) (mY r) u1.1) = 45 from q9) (show ¬ (ltM (mB r) (mY r) u1.1) = 45 from c_12))
          refine lv_iconst (v := 0) hx hb dX6_readWork_167 (by decide) ?_
          refine x_goV (wn := MW g o ((mZ r), (mP r), (mK r), (mA r), (mB r), (upd (upd (mO r) (3 * mT r) (ltM (mB r) (mY r) (mS r))) (3 * mT r + 1) (clkV (mB r) (mY r) (wtM 1 (uM r)))), (mM r), (mI r), (mY r), (mT r), ((wtM 0 u1).1), ((wtM 0 u1).2))) (x_rV (As := [.int 0]) X (c_X6_wants l g o ((mZ r), (mP r), (mK r), (mA r), (mB r), (upd (upd (mO r) (3 * mT r) (ltM (mB r) (mY r) (mS r))) (3 * mT r + 1) (clkV (mB r) (mY r) (wtM 1 (uM r)))), (mM r), (mI r), (mY r), (mT r), u1.1, u1.2)  0 _) yf_X6_wants yi_X6_wants wM_X6_144 ⟨Nat.le_of_ble_eq_true rfl, Nat.le_of_ble_eq_true rfl⟩ hP hD (p_all _) 0 rfl rfl hl rfl rfl (Nat.le_of_ble_eq_true rfl) dX6_readWork_168 ⟨Nat.zero_le _, Nat.zero_le _⟩) hP hD hS hA (p_all _) (p_back _) (fun H locs hP hD hS => ?_)
          refine lv_aload_n hx hb dX6_readWork_171 rfl (lv_at hl 3 rfl) ?_
          refine x_get (v := .ref (o 6)) X 0 8 in_X6 hP rfl rfl (by decide) wF_X6_26 rfl rfl dX6_readWork_172 ?_
          refine lv_iload_n hx hb dX6_readWork_175 rfl (lv_at hl 1 rfl) ?_
          refine lv_iconst (v := 2) hx hb dX6_readWork_176 (by decide) ?_
          refine lv_iadd hx hb dX6_readWork_177 ?_
          refine lv_iload_n hx hb dX6_readWork_178 rfl (lv_at hl 0 rfl) ?_
          refine lv_aload_n hx hb dX6_readWork_179 rfl (lv_at hl 3 rfl) ?_
          refine lv_iconst (v := 0) hx hb dX6_readWork_180 (by decide) ?_
          refine lv_bipush (v := 30) hx hb dX6_readWork_181 (by decide) ?_
          refine x_goI (wn := MW g o ((mZ r), (mP r), (mK r), (mA r), (mB r), (upd (upd (mO r) (3 * mT r) (ltM (mB r) (mY r) (mS r))) (3 * mT r + 1) (clkV (mB r) (mY r) (wtM 1 (uM r)))), (mM r), (mI r), (mY r), (mT r), ((numP (mB r) (mY r) 0 30 (wtM 0 u1)).1), ((nuU (mB r) (mY r) 0 (wtM 0 u1)).2))) (x_rV (As := [.int 0, .int 30]) X (c_X6_number_k l g o ((mZ r), (mP r), (mK r), (mA r), (mB r), (upd (upd (mO r) (3 * mT r) (ltM (mB r) (mY r) (mS r))) (3 * mT r + 1) (clkV (mB r) (mY r) (wtM 1 (uM r)))), (mM r), (mI r), (mY r), (mT r), ((wtM 0 u1).1), ((wtM 0 u1).2)) hy6 (show (wtM 0 u1).1 < 1000 from by have q1 := wt_le 0 u1; have q0 : (uM r).1 = mS r := rfl; omega)  _) yf_X6_number yi_X6_number wM_X6_157 ⟨Nat.le_of_ble_eq_true rfl, Nat.le_of_ble_eq_true rfl⟩ hP hD (p_all _) 0 rfl rfl hl rfl rfl (Nat.le_of_ble_eq_true rfl) dX6_readWork_183 ⟨Nat.zero_le _, Nat.zero_le _⟩) hP hD hS hA (p_all _) (p_back _) (fun H locs hP hD hS => ?_)
          refine lv_imul hx hb dX6_readWork_186 ?_
          refine x_iast (ws2 := MW g o ((mZ r), (mP r), (mK r), (mA r), (mB r), (upd (upd (upd (mO r) (3 * mT r) (ltM (mB r) (mY r) (mS r))) (3 * mT r + 1) (clkV (mB r) (mY r) (wtM 1 (uM r)))) (3 * mT r + 2) (1 * ((numP (mB r) (mY r) 0 30 (wtM 0 u1)).2))), (mM r), (mI r), (mY r), (mT r), ((numP (mB r) (mY r) 0 30 (wtM 0 u1)).1), ((nuU (mB r) (mY r) 0 (wtM 0 u1)).2))) X 6 (3 * mT r + 2) hP hD hS rfl (ix_t2 _) (by omega) (Nat.le_of_ble_eq_true rfl) rfl dX6_readWork_187 (fun H locs hP hD hS => ?_)
          refine lv_iload_n hx hb dX6_readWork_188 rfl (lv_at hl 2 rfl) ?_
          refine lv_bipush (v := 119) hx hb dX6_readWork_189 (by decide) ?_
          refine lv_icmp_ne (tgt := 210) hx hb dX6_readWork_191 (by decide) (fun c_16 => ?_) (fun q9 => absurd (show (ltM (mB r) (mY r) (mS r)) = 119 from q9) (show ¬ (ltM (mB r) (mY r) (mS r)) = 119 from (fun q8 => absurd (c_6.symm.trans q8) (by decide))))
          refine lv_aload_n hx hb dX6_readWork_210 rfl (lv_at hl 3 rfl) ?_
          refine lv_dup hx hb dX6_readWork_211 rfl ?_
          refine x_get (v := .int (nI (mT r))) X 0 9 in_X6 hP rfl rfl (by decide) wF_X6_151 rfl rfl dX6_readWork_212 ?_
          refine lv_iconst (v := 1) hx hb dX6_readWork_215 (by decide) ?_
          refine lv_iadd hx hb dX6_readWork_216 ?_
          refine W.eq (g2 := F0 m 217 ls [.int (nI ((mT r) + 1)), .ref (o 0)]) (by rw [nI_1]) ?_
          refine x_put (v := .int (nI ((mT r) + 1))) (ty0 := tyX6) (ws2 := MW g o ((mZ r), (mP r), (mK r), (mA r), (mB r), (upd (upd (upd (mO r) (3 * mT r) (ltM (mB r) (mY r) (mS r))) (3 * mT r + 1) (clkV (mB r) (mY r) (wtM 1 (uM r)))) (3 * mT r + 2) (1 * ((numP (mB r) (mY r) 0 30 (wtM 0 u1)).2))), (mM r), (mI r), (mY r), ((mT r) + 1), ((numP (mB r) (mY r) 0 30 (wtM 0 u1)).1), ((nuU (mB r) (mY r) 0 (wtM 0 u1)).2))) X 0 9 in_X6 tyX6_ok nmX6 hP hD hS rfl rfl (by decide) wF_X6_151 rfl rfl rfl rfl (Nat.le_of_ble_eq_true rfl) rfl dX6_readWork_217 (fun H locs hP hD hS => ?_)
          have es : sgM (rw6 r) = 1 := by simp only [sgM, if_neg (fun q7 => c_12 (e6.symm.trans q7))]
          have ek : okM (rw6 r) = 0 := by simp only [okM, if_neg (fun q7 => c_12 (e6.symm.trans q7)), if_neg (fun q7 => c_13 (e6.symm.trans q7))]
          have E : (MW g o ((mZ r), (mP r), (mK r), (mA r), (mB r), (upd (upd (upd (mO r) (3 * mT r) (ltM (mB r) (mY r) (mS r))) (3 * mT r + 1) (clkV (mB r) (mY r) (wtM 1 (uM r)))) (3 * mT r + 2) (1 * ((numP (mB r) (mY r) 0 30 (wtM 0 u1)).2))), (mM r), (mI r), (mY r), ((mT r) + 1), ((numP (mB r) (mY r) 0 30 (wtM 0 u1)).1), ((nuU (mB r) (mY r) 0 (wtM 0 u1)).2)) : va_W) = MW g o (rwM r) := by (simp only [rwM, rwNk, rwK2, if_neg c_1, if_pos c_6]; rw [es, ek, ← hk1]) <;> rfl
          exact x_vret X hr hlocks (pw E hP) (dw E hD) hS dX6_readWork_220
      · refine lv_iconst (v := (-1)) hx hb dX6_readWork_138 (by decide) ?_
        refine lv_goto (tgt := 143) hx hb dX6_readWork_139 (by decide) ?_
        refine lv_istore_n (lv' := [(3, .int (-1)), (2, .int (3 * (nI (mT r)))), (1, .int (ltM (mB r) (mY r) (mS r))), (0, .ref (o 0))]) hx hb dX6_readWork_143 rfl hl (by decide) rfl (fun ls hl => ?_)
        refine lv_aload_n hx hb dX6_readWork_144 rfl (lv_at hl 3 rfl) ?_
        refine lv_aload_n hx hb dX6_readWork_145 rfl (lv_at hl 3 rfl) ?_
        refine x_goI (wn := MW g o ((mZ r), (mP r), (mK r), (mA r), (mB r), (upd (upd (mO r) (3 * mT r) (ltM (mB r) (mY r) (mS r))) (3 * mT r + 1) (clkV (mB r) (mY r) (wtM 1 (uM r)))), (mM r), (mI r), (mY r), (mT r), u1.1, u1.2)) (x_rV (As := []) X (c_X6_letter l g o ((mZ r), (mP r), (mK r), (mA r), (mB r), (upd (upd (mO r) (3 * mT r) (ltM (mB r) (mY r) (mS r))) (3 * mT r + 1) (clkV (mB r) (mY r) (wtM 1 (uM r)))), (mM r), (mI r), (mY r), (mT r), u1.1, u1.2) hy6 (show u1.1 < 2 ^ 31 from by omega)  _) yf_X6_letter yi_X6_letter wM_X6_141 ⟨Nat.le_of_ble_eq_true rfl, Nat.le_of_ble_eq_true rfl⟩ hP hD (p_all _) 0 rfl rfl hl rfl rfl (Nat.le_of_ble_eq_true rfl) dX6_readWork_146 ⟨Nat.zero_le _, Nat.zero_le _⟩) hP hD hS hA (p_all _) (p_back _) (fun H locs hP hD hS => ?_)
        refine lv_bipush (v := 43) hx hb dX6_readWork_149 (by decide) ?_
        refine lv_icmp_eq (tgt := 163) hx hb dX6_readWork_151 (by decide) (fun q9 => absurd q9 (show ¬ (ltM (mB r) (mY r) u1.1) = 43 from (fun q8 => absurd (c_12.symm.trans q8) (by decide)))) (fun c_17 => ?_)
        refine lv_aload_n hx hb dX6_readWork_154 rfl (lv_at hl 3 rfl) ?_
        refine x_goI (wn := MW g o ((mZ r), (mP r), (mK r), (mA r), (mB r), (upd (upd (mO r) (3 * mT r) (ltM (mB r) (mY r) (mS r))) (3 * mT r + 1) (clkV (mB r) (mY r) (wtM 1 (uM r)))), (mM r), (mI r), (mY r), (mT r), u1.1, u1.2)) (x_rV (As := []) X (c_X6_letter l g o ((mZ r), (mP r), (mK r), (mA r), (mB r), (upd (upd (mO r) (3 * mT r) (ltM (mB r) (mY r) (mS r))) (3 * mT r + 1) (clkV (mB r) (mY r) (wtM 1 (uM r)))), (mM r), (mI r), (mY r), (mT r), u1.1, u1.2) hy6 (show u1.1 < 2 ^ 31 from by omega)  _) yf_X6_letter yi_X6_letter wM_X6_141 ⟨Nat.le_of_ble_eq_true rfl, Nat.le_of_ble_eq_true rfl⟩ hP hD (p_all _) 0 rfl rfl hl rfl rfl (Nat.le_of_ble_eq_true rfl) dX6_readWork_155 ⟨Nat.zero_le _, Nat.zero_le _⟩) hP hD hS hA (p_all _) (p_back _) (fun H locs hP hD hS => ?_)
        refine lv_bipush (v := 45) hx hb dX6_readWork_158 (by decide) ?_
        refine lv_icmp_ne (tgt := 167) hx hb dX6_readWork_160 (by decide) (fun q9 => absurd (show (ltM (mB r) (mY r) u1.1) = 45 from c_12) q9) (fun c_18 => ?_)
        refine lv_iconst (v := 1) hx hb dX6_readWork_163 (by decide) ?_
        refine lv_goto (tgt := 168) hx hb dX6_readWork_164 (by decide) ?_
        refine x_goV (wn := MW g o ((mZ r), (mP r), (mK r), (mA r), (mB r), (upd (upd (mO r) (3 * mT r) (ltM (mB r) (mY r) (mS r))) (3 * mT r + 1) (clkV (mB r) (mY r) (wtM 1 (uM r)))), (mM r), (mI r), (mY r), (mT r), ((wtM 1 u1).1), ((wtM 1 u1).2))) (x_rV (As := [.int 1]) X (c_X6_wants l g o ((mZ r), (mP r), (mK r), (mA r), (mB r), (upd (upd (mO r) (3 * mT r) (ltM (mB r) (mY r) (mS r))) (3 * mT r + 1) (clkV (mB r) (mY r) (wtM 1 (uM r)))), (mM r), (mI r), (mY r), (mT r), u1.1, u1.2)  1 _) yf_X6_wants yi_X6_wants wM_X6_144 ⟨Nat.le_of_ble_eq_true rfl, Nat.le_of_ble_eq_true rfl⟩ hP hD (p_all _) 0 rfl rfl hl rfl rfl (Nat.le_of_ble_eq_true rfl) dX6_readWork_168 ⟨Nat.zero_le _, Nat.zero_le _⟩) hP hD hS hA (p_all _) (p_back _) (fun H locs hP hD hS => ?_)
        refine lv_aload_n hx hb dX6_readWork_171 rfl (lv_at hl 3 rfl) ?_
        refine x_get (v := .ref (o 6)) X 0 8 in_X6 hP rfl rfl (by decide) wF_X6_26 rfl rfl dX6_readWork_172 ?_
        refine lv_iload_n hx hb dX6_readWork_175 rfl (lv_at hl 1 rfl) ?_
        refine lv_iconst (v := 2) hx hb dX6_readWork_176 (by decide) ?_
        refine lv_iadd hx hb dX6_readWork_177 ?_
        refine lv_iload_n hx hb dX6_readWork_178 rfl (lv_at hl 0 rfl) ?_
        refine lv_aload_n hx hb dX6_readWork_179 rfl (lv_at hl 3 rfl) ?_
        refine lv_iconst (v := 0) hx hb dX6_readWork_180 (by decide) ?_
        refine lv_bipush (v := 30) hx hb dX6_readWork_181 (by decide) ?_
        refine x_goI (wn := MW g o ((mZ r), (mP r), (mK r), (mA r), (mB r), (upd (upd (mO r) (3 * mT r) (ltM (mB r) (mY r) (mS r))) (3 * mT r + 1) (clkV (mB r) (mY r) (wtM 1 (uM r)))), (mM r), (mI r), (mY r), (mT r), ((numP (mB r) (mY r) 0 30 (wtM 1 u1)).1), ((nuU (mB r) (mY r) 0 (wtM 1 u1)).2))) (x_rV (As := [.int 0, .int 30]) X (c_X6_number_k l g o ((mZ r), (mP r), (mK r), (mA r), (mB r), (upd (upd (mO r) (3 * mT r) (ltM (mB r) (mY r) (mS r))) (3 * mT r + 1) (clkV (mB r) (mY r) (wtM 1 (uM r)))), (mM r), (mI r), (mY r), (mT r), ((wtM 1 u1).1), ((wtM 1 u1).2)) hy6 (show (wtM 1 u1).1 < 1000 from by have q1 := wt_le 1 u1; have q0 : (uM r).1 = mS r := rfl; omega)  _) yf_X6_number yi_X6_number wM_X6_157 ⟨Nat.le_of_ble_eq_true rfl, Nat.le_of_ble_eq_true rfl⟩ hP hD (p_all _) 0 rfl rfl hl rfl rfl (Nat.le_of_ble_eq_true rfl) dX6_readWork_183 ⟨Nat.zero_le _, Nat.zero_le _⟩) hP hD hS hA (p_all _) (p_back _) (fun H locs hP hD hS => ?_)
        refine lv_imul hx hb dX6_readWork_186 ?_
        refine x_iast (ws2 := MW g o ((mZ r), (mP r), (mK r), (mA r), (mB r), (upd (upd (upd (mO r) (3 * mT r) (ltM (mB r) (mY r) (mS r))) (3 * mT r + 1) (clkV (mB r) (mY r) (wtM 1 (uM r)))) (3 * mT r + 2) ((-1) * ((numP (mB r) (mY r) 0 30 (wtM 1 u1)).2))), (mM r), (mI r), (mY r), (mT r), ((numP (mB r) (mY r) 0 30 (wtM 1 u1)).1), ((nuU (mB r) (mY r) 0 (wtM 1 u1)).2))) X 6 (3 * mT r + 2) hP hD hS rfl (ix_t2 _) (by omega) (Nat.le_of_ble_eq_true rfl) rfl dX6_readWork_187 (fun H locs hP hD hS => ?_)
        refine lv_iload_n hx hb dX6_readWork_188 rfl (lv_at hl 2 rfl) ?_
        refine lv_bipush (v := 119) hx hb dX6_readWork_189 (by decide) ?_
        refine lv_icmp_ne (tgt := 210) hx hb dX6_readWork_191 (by decide) (fun c_19 => ?_) (fun q9 => absurd (show (ltM (mB r) (mY r) (mS r)) = 119 from q9) (show ¬ (ltM (mB r) (mY r) (mS r)) = 119 from (fun q8 => absurd (c_6.symm.trans q8) (by decide))))
        refine lv_aload_n hx hb dX6_readWork_210 rfl (lv_at hl 3 rfl) ?_
        refine lv_dup hx hb dX6_readWork_211 rfl ?_
        refine x_get (v := .int (nI (mT r))) X 0 9 in_X6 hP rfl rfl (by decide) wF_X6_151 rfl rfl dX6_readWork_212 ?_
        refine lv_iconst (v := 1) hx hb dX6_readWork_215 (by decide) ?_
        refine lv_iadd hx hb dX6_readWork_216 ?_
        refine W.eq (g2 := F0 m 217 ls [.int (nI ((mT r) + 1)), .ref (o 0)]) (by rw [nI_1]) ?_
        refine x_put (v := .int (nI ((mT r) + 1))) (ty0 := tyX6) (ws2 := MW g o ((mZ r), (mP r), (mK r), (mA r), (mB r), (upd (upd (upd (mO r) (3 * mT r) (ltM (mB r) (mY r) (mS r))) (3 * mT r + 1) (clkV (mB r) (mY r) (wtM 1 (uM r)))) (3 * mT r + 2) ((-1) * ((numP (mB r) (mY r) 0 30 (wtM 1 u1)).2))), (mM r), (mI r), (mY r), ((mT r) + 1), ((numP (mB r) (mY r) 0 30 (wtM 1 u1)).1), ((nuU (mB r) (mY r) 0 (wtM 1 u1)).2))) X 0 9 in_X6 tyX6_ok nmX6 hP hD hS rfl rfl (by decide) wF_X6_151 rfl rfl rfl rfl (Nat.le_of_ble_eq_true rfl) rfl dX6_readWork_217 (fun H locs hP hD hS => ?_)
        have es : sgM (rw6 r) = -1 := by simp only [sgM, if_pos (e6.trans c_12)]
        have ek : okM (rw6 r) = 1 := by simp only [okM, if_pos (e6.trans c_12)]
        have E : (MW g o ((mZ r), (mP r), (mK r), (mA r), (mB r), (upd (upd (upd (mO r) (3 * mT r) (ltM (mB r) (mY r) (mS r))) (3 * mT r + 1) (clkV (mB r) (mY r) (wtM 1 (uM r)))) (3 * mT r + 2) ((-1) * ((numP (mB r) (mY r) 0 30 (wtM 1 u1)).2))), (mM r), (mI r), (mY r), ((mT r) + 1), ((numP (mB r) (mY r) 0 30 (wtM 1 u1)).1), ((nuU (mB r) (mY r) 0 (wtM 1 u1)).2)) : va_W) = MW g o (rwM r) := by (simp only [rwM, rwNk, rwK2, if_neg c_1, if_pos c_6]; rw [es, ek, ← hk1]) <;> rfl
        exact x_vret X hr hlocks (pw E hP) (dw E hD) hS dX6_readWork_220
    · refine lv_iload_n hx hb dX6_readWork_18 rfl (lv_at hl 0 rfl) ?_
      refine lv_bipush (v := 119) hx hb dX6_readWork_19 (by decide) ?_
      refine lv_icmp_eq (tgt := 36) hx hb dX6_readWork_21 (by decide) (fun (c_20 : (ltM (mB r) (mY r) (mS r)) = 119) => ?_) (fun (c_20 : ¬ (ltM (mB r) (mY r) (mS r)) = 119) => ?_)
      · refine lv_iconst (v := 1) hx hb dX6_readWork_36 (by decide) ?_
        refine lv_goto (tgt := 41) hx hb dX6_readWork_37 (by decide) ?_
        refine x_goV (wn := MW g o ((mZ r), (mP r), (mK r), (mA r), (mB r), (mO r), (mM r), (mI r), (mY r), (mT r), ((wtM 1 (uM r)).1), ((wtM 1 (uM r)).2))) (x_rV (As := [.int 1]) X (c_X6_wants l g o r  1 _) yf_X6_wants yi_X6_wants wM_X6_144 ⟨Nat.le_of_ble_eq_true rfl, Nat.le_of_ble_eq_true rfl⟩ hP hD (p_all _) 0 rfl rfl hl rfl rfl (Nat.le_of_ble_eq_true rfl) dX6_readWork_41 ⟨Nat.zero_le _, Nat.zero_le _⟩) hP hD hS hA (p_all _) (p_back _) (fun H locs hP hD hS => ?_)
        refine lv_iconst (v := 3) hx hb dX6_readWork_44 (by decide) ?_
        refine lv_aload_n hx hb dX6_readWork_45 rfl (lv_at hl 1 rfl) ?_
        refine x_get (v := .int (nI (mT r))) X 0 9 in_X6 hP rfl rfl (by decide) wF_X6_151 rfl rfl dX6_readWork_46 ?_
        refine lv_imul hx hb dX6_readWork_49 ?_
        refine lv_istore_n (lv' := [(2, .int (3 * (nI (mT r)))), (1, .int (ltM (mB r) (mY r) (mS r))), (0, .ref (o 0))]) hx hb dX6_readWork_50 rfl hl (by decide) rfl (fun ls hl => ?_)
        refine lv_aload_n hx hb dX6_readWork_51 rfl (lv_at hl 2 rfl) ?_
        refine x_get (v := .ref (o 6)) X 0 8 in_X6 hP rfl rfl (by decide) wF_X6_26 rfl rfl dX6_readWork_52 ?_
        refine lv_iload_n hx hb dX6_readWork_55 rfl (lv_at hl 0 rfl) ?_
        refine lv_iload_n hx hb dX6_readWork_56 rfl (lv_at hl 1 rfl) ?_
        refine x_iast (ws2 := MW g o ((mZ r), (mP r), (mK r), (mA r), (mB r), (upd (mO r) (3 * mT r) (ltM (mB r) (mY r) (mS r))), (mM r), (mI r), (mY r), (mT r), ((wtM 1 (uM r)).1), ((wtM 1 (uM r)).2))) X 6 (3 * mT r) hP hD hS rfl (ix_t0 _) (by omega) (Nat.le_of_ble_eq_true rfl) rfl dX6_readWork_57 (fun H locs hP hD hS => ?_)
        refine lv_iload_n hx hb dX6_readWork_58 rfl (lv_at hl 1 rfl) ?_
        refine lv_bipush (v := 102) hx hb dX6_readWork_59 (by decide) ?_
        refine lv_icmp_eq (tgt := 76) hx hb dX6_readWork_61 (by decide) (fun q9 => absurd q9 (show ¬ (ltM (mB r) (mY r) (mS r)) = 102 from (fun q8 => absurd (c_20.symm.trans q8) (by decide)))) (fun c_21 => ?_)
        refine lv_iload_n hx hb dX6_readWork_64 rfl (lv_at hl 1 rfl) ?_
        refine lv_bipush (v := 111) hx hb dX6_readWork_65 (by decide) ?_
        refine lv_icmp_eq (tgt := 76) hx hb dX6_readWork_67 (by decide) (fun q9 => absurd q9 (show ¬ (ltM (mB r) (mY r) (mS r)) = 111 from (fun q8 => absurd (c_20.symm.trans q8) (by decide)))) (fun c_22 => ?_)
        refine lv_iload_n hx hb dX6_readWork_70 rfl (lv_at hl 1 rfl) ?_
        refine lv_bipush (v := 98) hx hb dX6_readWork_71 (by decide) ?_
        refine lv_icmp_ne (tgt := 89) hx hb dX6_readWork_73 (by decide) (fun c_23 => ?_) (fun q9 => absurd (show (ltM (mB r) (mY r) (mS r)) = 98 from q9) (show ¬ (ltM (mB r) (mY r) (mS r)) = 98 from (fun q8 => absurd (c_20.symm.trans q8) (by decide))))
        refine lv_iload_n hx hb dX6_readWork_89 rfl (lv_at hl 1 rfl) ?_
        refine lv_bipush (v := 102) hx hb dX6_readWork_90 (by decide) ?_
        refine lv_icmp_ne (tgt := 111) hx hb dX6_readWork_92 (by decide) (fun c_24 => ?_) (fun q9 => absurd (show (ltM (mB r) (mY r) (mS r)) = 102 from q9) (show ¬ (ltM (mB r) (mY r) (mS r)) = 102 from (fun q8 => absurd (c_20.symm.trans q8) (by decide))))
        refine lv_iload_n hx hb dX6_readWork_111 rfl (lv_at hl 1 rfl) ?_
        refine lv_bipush (v := 107) hx hb dX6_readWork_112 (by decide) ?_
        refine lv_icmp_ne (tgt := 188) hx hb dX6_readWork_114 (by decide) (fun c_25 => ?_) (fun q9 => absurd (show (ltM (mB r) (mY r) (mS r)) = 107 from q9) (show ¬ (ltM (mB r) (mY r) (mS r)) = 107 from (fun q8 => absurd (c_20.symm.trans q8) (by decide))))
        refine lv_iload_n hx hb dX6_readWork_188 rfl (lv_at hl 1 rfl) ?_
        refine lv_bipush (v := 119) hx hb dX6_readWork_189 (by decide) ?_
        refine lv_icmp_ne (tgt := 210) hx hb dX6_readWork_191 (by decide) (fun q9 => absurd (show (ltM (mB r) (mY r) (mS r)) = 119 from c_20) q9) (fun c_26 => ?_)
        refine lv_aload_n hx hb dX6_readWork_194 rfl (lv_at hl 2 rfl) ?_
        refine x_get (v := .ref (o 6)) X 0 8 in_X6 hP rfl rfl (by decide) wF_X6_26 rfl rfl dX6_readWork_195 ?_
        refine lv_iload_n hx hb dX6_readWork_198 rfl (lv_at hl 0 rfl) ?_
        refine lv_iconst (v := 1) hx hb dX6_readWork_199 (by decide) ?_
        refine lv_iadd hx hb dX6_readWork_200 ?_
        refine lv_aload_n hx hb dX6_readWork_201 rfl (lv_at hl 2 rfl) ?_
        refine lv_iconst (v := 1) hx hb dX6_readWork_202 (by decide) ?_
        refine lv_sipush (v := 2000) hx hb dX6_readWork_203 (by decide) ?_
        refine x_goI (wn := MW g o ((mZ r), (mP r), (mK r), (mA r), (mB r), (upd (mO r) (3 * mT r) (ltM (mB r) (mY r) (mS r))), (mM r), (mI r), (mY r), (mT r), ((numP (mB r) (mY r) 1 2000 (wtM 1 (uM r))).1), ((nuU (mB r) (mY r) 1 (wtM 1 (uM r))).2))) (x_rV (As := [.int 1, .int 2000]) X (c_X6_number_w l g o ((mZ r), (mP r), (mK r), (mA r), (mB r), (upd (mO r) (3 * mT r) (ltM (mB r) (mY r) (mS r))), (mM r), (mI r), (mY r), (mT r), ((wtM 1 (uM r)).1), ((wtM 1 (uM r)).2)) hy6 (show (wtM 1 (uM r)).1 < 1000 from by have q1 := wt_le 1 (uM r); have q0 : (uM r).1 = mS r := rfl; omega)  _) yf_X6_number yi_X6_number wM_X6_157 ⟨Nat.le_of_ble_eq_true rfl, Nat.le_of_ble_eq_true rfl⟩ hP hD (p_all _) 0 rfl rfl hl rfl rfl (Nat.le_of_ble_eq_true rfl) dX6_readWork_206 ⟨Nat.zero_le _, Nat.zero_le _⟩) hP hD hS hA (p_all _) (p_back _) (fun H locs hP hD hS => ?_)
        refine x_iast (ws2 := MW g o ((mZ r), (mP r), (mK r), (mA r), (mB r), (upd (upd (mO r) (3 * mT r) (ltM (mB r) (mY r) (mS r))) (3 * mT r + 1) ((numP (mB r) (mY r) 1 2000 (wtM 1 (uM r))).2)), (mM r), (mI r), (mY r), (mT r), ((numP (mB r) (mY r) 1 2000 (wtM 1 (uM r))).1), ((nuU (mB r) (mY r) 1 (wtM 1 (uM r))).2))) X 6 (3 * mT r + 1) hP hD hS rfl (ix_t1 _) (by omega) (Nat.le_of_ble_eq_true rfl) rfl dX6_readWork_209 (fun H locs hP hD hS => ?_)
        refine lv_aload_n hx hb dX6_readWork_210 rfl (lv_at hl 2 rfl) ?_
        refine lv_dup hx hb dX6_readWork_211 rfl ?_
        refine x_get (v := .int (nI (mT r))) X 0 9 in_X6 hP rfl rfl (by decide) wF_X6_151 rfl rfl dX6_readWork_212 ?_
        refine lv_iconst (v := 1) hx hb dX6_readWork_215 (by decide) ?_
        refine lv_iadd hx hb dX6_readWork_216 ?_
        refine W.eq (g2 := F0 m 217 ls [.int (nI ((mT r) + 1)), .ref (o 0)]) (by rw [nI_1]) ?_
        refine x_put (v := .int (nI ((mT r) + 1))) (ty0 := tyX6) (ws2 := MW g o ((mZ r), (mP r), (mK r), (mA r), (mB r), (upd (upd (mO r) (3 * mT r) (ltM (mB r) (mY r) (mS r))) (3 * mT r + 1) ((numP (mB r) (mY r) 1 2000 (wtM 1 (uM r))).2)), (mM r), (mI r), (mY r), ((mT r) + 1), ((numP (mB r) (mY r) 1 2000 (wtM 1 (uM r))).1), ((nuU (mB r) (mY r) 1 (wtM 1 (uM r))).2))) X 0 9 in_X6 tyX6_ok nmX6 hP hD hS rfl rfl (by decide) wF_X6_151 rfl rfl rfl rfl (Nat.le_of_ble_eq_true rfl) rfl dX6_readWork_217 (fun H locs hP hD hS => ?_)
        have E : (MW g o ((mZ r), (mP r), (mK r), (mA r), (mB r), (upd (upd (mO r) (3 * mT r) (ltM (mB r) (mY r) (mS r))) (3 * mT r + 1) ((numP (mB r) (mY r) 1 2000 (wtM 1 (uM r))).2)), (mM r), (mI r), (mY r), ((mT r) + 1), ((numP (mB r) (mY r) 1 2000 (wtM 1 (uM r))).1), ((nuU (mB r) (mY r) 1 (wtM 1 (uM r))).2)) : va_W) = MW g o (rwM r) := by (simp only [rwM, if_neg c_1, if_neg c_6, if_pos c_20]) <;> rfl
        exact x_vret X hr hlocks (pw E hP) (dw E hD) hS dX6_readWork_220
      · refine lv_iload_n hx hb dX6_readWork_24 rfl (lv_at hl 0 rfl) ?_
        refine lv_bipush (v := 111) hx hb dX6_readWork_25 (by decide) ?_
        refine lv_icmp_eq (tgt := 36) hx hb dX6_readWork_27 (by decide) (fun (c_27 : (ltM (mB r) (mY r) (mS r)) = 111) => ?_) (fun (c_27 : ¬ (ltM (mB r) (mY r) (mS r)) = 111) => ?_)
        · refine lv_iconst (v := 1) hx hb dX6_readWork_36 (by decide) ?_
          refine lv_goto (tgt := 41) hx hb dX6_readWork_37 (by decide) ?_
          refine x_goV (wn := MW g o ((mZ r), (mP r), (mK r), (mA r), (mB r), (mO r), (mM r), (mI r), (mY r), (mT r), ((wtM 1 (uM r)).1), ((wtM 1 (uM r)).2))) (x_rV (As := [.int 1]) X (c_X6_wants l g o r  1 _) yf_X6_wants yi_X6_wants wM_X6_144 ⟨Nat.le_of_ble_eq_true rfl, Nat.le_of_ble_eq_true rfl⟩ hP hD (p_all _) 0 rfl rfl hl rfl rfl (Nat.le_of_ble_eq_true rfl) dX6_readWork_41 ⟨Nat.zero_le _, Nat.zero_le _⟩) hP hD hS hA (p_all _) (p_back _) (fun H locs hP hD hS => ?_)
          refine lv_iconst (v := 3) hx hb dX6_readWork_44 (by decide) ?_
          refine lv_aload_n hx hb dX6_readWork_45 rfl (lv_at hl 1 rfl) ?_
          refine x_get (v := .int (nI (mT r))) X 0 9 in_X6 hP rfl rfl (by decide) wF_X6_151 rfl rfl dX6_readWork_46 ?_
          refine lv_imul hx hb dX6_readWork_49 ?_
          refine lv_istore_n (lv' := [(2, .int (3 * (nI (mT r)))), (1, .int (ltM (mB r) (mY r) (mS r))), (0, .ref (o 0))]) hx hb dX6_readWork_50 rfl hl (by decide) rfl (fun ls hl => ?_)
          refine lv_aload_n hx hb dX6_readWork_51 rfl (lv_at hl 2 rfl) ?_
          refine x_get (v := .ref (o 6)) X 0 8 in_X6 hP rfl rfl (by decide) wF_X6_26 rfl rfl dX6_readWork_52 ?_
          refine lv_iload_n hx hb dX6_readWork_55 rfl (lv_at hl 0 rfl) ?_
          refine lv_iload_n hx hb dX6_readWork_56 rfl (lv_at hl 1 rfl) ?_
          refine x_iast (ws2 := MW g o ((mZ r), (mP r), (mK r), (mA r), (mB r), (upd (mO r) (3 * mT r) (ltM (mB r) (mY r) (mS r))), (mM r), (mI r), (mY r), (mT r), ((wtM 1 (uM r)).1), ((wtM 1 (uM r)).2))) X 6 (3 * mT r) hP hD hS rfl (ix_t0 _) (by omega) (Nat.le_of_ble_eq_true rfl) rfl dX6_readWork_57 (fun H locs hP hD hS => ?_)
          refine lv_iload_n hx hb dX6_readWork_58 rfl (lv_at hl 1 rfl) ?_
          refine lv_bipush (v := 102) hx hb dX6_readWork_59 (by decide) ?_
          refine lv_icmp_eq (tgt := 76) hx hb dX6_readWork_61 (by decide) (fun q9 => absurd q9 (show ¬ (ltM (mB r) (mY r) (mS r)) = 102 from (fun q8 => absurd (c_27.symm.trans q8) (by decide)))) (fun c_28 => ?_)
          refine lv_iload_n hx hb dX6_readWork_64 rfl (lv_at hl 1 rfl) ?_
          refine lv_bipush (v := 111) hx hb dX6_readWork_65 (by decide) ?_
          refine lv_icmp_eq (tgt := 76) hx hb dX6_readWork_67 (by decide) (fun c_29 => ?_) (fun q9 => absurd (show (ltM (mB r) (mY r) (mS r)) = 111 from c_27) (show ¬ ((ltM (mB r) (mY r) (mS r)) = 111) from q9))
          refine lv_aload_n hx hb dX6_readWork_76 rfl (lv_at hl 2 rfl) ?_
          refine x_get (v := .ref (o 6)) X 0 8 in_X6 hP rfl rfl (by decide) wF_X6_26 rfl rfl dX6_readWork_77 ?_
          refine lv_iload_n hx hb dX6_readWork_80 rfl (lv_at hl 0 rfl) ?_
          refine lv_iconst (v := 1) hx hb dX6_readWork_81 (by decide) ?_
          refine lv_iadd hx hb dX6_readWork_82 ?_
          refine lv_aload_n hx hb dX6_readWork_83 rfl (lv_at hl 2 rfl) ?_
          refine lv_iconst (v := 3) hx hb dX6_readWork_84 (by decide) ?_
          refine x_goI (wn := MW g o ((mZ r), (mP r), (mK r), (mA r), (mB r), (upd (mO r) (3 * mT r) (ltM (mB r) (mY r) (mS r))), (mM r), (mI r), (mY r), (mT r), ((figU (mB r) (mY r) 3 (wtM 1 (uM r))).1), ((figU (mB r) (mY r) 3 (wtM 1 (uM r))).2))) (x_rV (As := [.int 3]) X (c_X6_figure l g o ((mZ r), (mP r), (mK r), (mA r), (mB r), (upd (mO r) (3 * mT r) (ltM (mB r) (mY r) (mS r))), (mM r), (mI r), (mY r), (mT r), ((wtM 1 (uM r)).1), ((wtM 1 (uM r)).2)) hy6 (show (wtM 1 (uM r)).1 < 1000 from by have q1 := wt_le 1 (uM r); have q0 : (uM r).1 = mS r := rfl; omega) 3  _) yf_X6_figure yi_X6_figure wM_X6_148 ⟨Nat.le_of_ble_eq_true rfl, Nat.le_of_ble_eq_true rfl⟩ hP hD (p_all _) 0 rfl rfl hl rfl rfl (Nat.le_of_ble_eq_true rfl) dX6_readWork_85 ⟨Nat.zero_le _, Nat.zero_le _⟩) hP hD hS hA (p_all _) (p_back _) (fun H locs hP hD hS => ?_)
          refine x_iast (ws2 := MW g o ((mZ r), (mP r), (mK r), (mA r), (mB r), (upd (upd (mO r) (3 * mT r) (ltM (mB r) (mY r) (mS r))) (3 * mT r + 1) (fgM (mB r) (mY r) (wtM 1 (uM r)).1)), (mM r), (mI r), (mY r), (mT r), ((figU (mB r) (mY r) 3 (wtM 1 (uM r))).1), ((figU (mB r) (mY r) 3 (wtM 1 (uM r))).2))) X 6 (3 * mT r + 1) hP hD hS rfl (ix_t1 _) (by omega) (Nat.le_of_ble_eq_true rfl) rfl dX6_readWork_88 (fun H locs hP hD hS => ?_)
          refine lv_iload_n hx hb dX6_readWork_89 rfl (lv_at hl 1 rfl) ?_
          refine lv_bipush (v := 102) hx hb dX6_readWork_90 (by decide) ?_
          refine lv_icmp_ne (tgt := 111) hx hb dX6_readWork_92 (by decide) (fun c_30 => ?_) (fun q9 => absurd (show (ltM (mB r) (mY r) (mS r)) = 102 from q9) (show ¬ (ltM (mB r) (mY r) (mS r)) = 102 from (fun q8 => absurd (c_27.symm.trans q8) (by decide))))
          refine lv_iload_n hx hb dX6_readWork_111 rfl (lv_at hl 1 rfl) ?_
          refine lv_bipush (v := 107) hx hb dX6_readWork_112 (by decide) ?_
          refine lv_icmp_ne (tgt := 188) hx hb dX6_readWork_114 (by decide) (fun c_31 => ?_) (fun q9 => absurd (show (ltM (mB r) (mY r) (mS r)) = 107 from q9) (show ¬ (ltM (mB r) (mY r) (mS r)) = 107 from (fun q8 => absurd (c_27.symm.trans q8) (by decide))))
          refine lv_iload_n hx hb dX6_readWork_188 rfl (lv_at hl 1 rfl) ?_
          refine lv_bipush (v := 119) hx hb dX6_readWork_189 (by decide) ?_
          refine lv_icmp_ne (tgt := 210) hx hb dX6_readWork_191 (by decide) (fun c_32 => ?_) (fun q9 => absurd (show (ltM (mB r) (mY r) (mS r)) = 119 from q9) (show ¬ (ltM (mB r) (mY r) (mS r)) = 119 from (fun q8 => absurd (c_27.symm.trans q8) (by decide))))
          refine lv_aload_n hx hb dX6_readWork_210 rfl (lv_at hl 2 rfl) ?_
          refine lv_dup hx hb dX6_readWork_211 rfl ?_
          refine x_get (v := .int (nI (mT r))) X 0 9 in_X6 hP rfl rfl (by decide) wF_X6_151 rfl rfl dX6_readWork_212 ?_
          refine lv_iconst (v := 1) hx hb dX6_readWork_215 (by decide) ?_
          refine lv_iadd hx hb dX6_readWork_216 ?_
          refine W.eq (g2 := F0 m 217 ls [.int (nI ((mT r) + 1)), .ref (o 0)]) (by rw [nI_1]) ?_
          refine x_put (v := .int (nI ((mT r) + 1))) (ty0 := tyX6) (ws2 := MW g o ((mZ r), (mP r), (mK r), (mA r), (mB r), (upd (upd (mO r) (3 * mT r) (ltM (mB r) (mY r) (mS r))) (3 * mT r + 1) (fgM (mB r) (mY r) (wtM 1 (uM r)).1)), (mM r), (mI r), (mY r), ((mT r) + 1), ((figU (mB r) (mY r) 3 (wtM 1 (uM r))).1), ((figU (mB r) (mY r) 3 (wtM 1 (uM r))).2))) X 0 9 in_X6 tyX6_ok nmX6 hP hD hS rfl rfl (by decide) wF_X6_151 rfl rfl rfl rfl (Nat.le_of_ble_eq_true rfl) rfl dX6_readWork_217 (fun H locs hP hD hS => ?_)
          have E : (MW g o ((mZ r), (mP r), (mK r), (mA r), (mB r), (upd (upd (mO r) (3 * mT r) (ltM (mB r) (mY r) (mS r))) (3 * mT r + 1) (fgM (mB r) (mY r) (wtM 1 (uM r)).1)), (mM r), (mI r), (mY r), ((mT r) + 1), ((figU (mB r) (mY r) 3 (wtM 1 (uM r))).1), ((figU (mB r) (mY r) 3 (wtM 1 (uM r))).2)) : va_W) = MW g o (rwM r) := by (simp only [rwM, if_neg c_1, if_neg c_6, if_neg c_20, if_pos c_27]) <;> rfl
          exact x_vret X hr hlocks (pw E hP) (dw E hD) hS dX6_readWork_220
        · refine lv_iload_n hx hb dX6_readWork_30 rfl (lv_at hl 0 rfl) ?_
          refine lv_bipush (v := 98) hx hb dX6_readWork_31 (by decide) ?_
          refine lv_icmp_ne (tgt := 40) hx hb dX6_readWork_33 (by decide) (fun (c_33 : ¬ (ltM (mB r) (mY r) (mS r)) = 98) => ?_) (fun (c_33 : (ltM (mB r) (mY r) (mS r)) = 98) => ?_)
          · refine lv_iconst (v := 0) hx hb dX6_readWork_40 (by decide) ?_
            refine x_goV (wn := MW g o ((mZ r), (mP r), (mK r), (mA r), (mB r), (mO r), (mM r), (mI r), (mY r), (mT r), ((wtM 0 (uM r)).1), ((wtM 0 (uM r)).2))) (x_rV (As := [.int 0]) X (c_X6_wants l g o r  0 _) yf_X6_wants yi_X6_wants wM_X6_144 ⟨Nat.le_of_ble_eq_true rfl, Nat.le_of_ble_eq_true rfl⟩ hP hD (p_all _) 0 rfl rfl hl rfl rfl (Nat.le_of_ble_eq_true rfl) dX6_readWork_41 ⟨Nat.zero_le _, Nat.zero_le _⟩) hP hD hS hA (p_all _) (p_back _) (fun H locs hP hD hS => ?_)
            refine lv_iconst (v := 3) hx hb dX6_readWork_44 (by decide) ?_
            refine lv_aload_n hx hb dX6_readWork_45 rfl (lv_at hl 1 rfl) ?_
            refine x_get (v := .int (nI (mT r))) X 0 9 in_X6 hP rfl rfl (by decide) wF_X6_151 rfl rfl dX6_readWork_46 ?_
            refine lv_imul hx hb dX6_readWork_49 ?_
            refine lv_istore_n (lv' := [(2, .int (3 * (nI (mT r)))), (1, .int (ltM (mB r) (mY r) (mS r))), (0, .ref (o 0))]) hx hb dX6_readWork_50 rfl hl (by decide) rfl (fun ls hl => ?_)
            refine lv_aload_n hx hb dX6_readWork_51 rfl (lv_at hl 2 rfl) ?_
            refine x_get (v := .ref (o 6)) X 0 8 in_X6 hP rfl rfl (by decide) wF_X6_26 rfl rfl dX6_readWork_52 ?_
            refine lv_iload_n hx hb dX6_readWork_55 rfl (lv_at hl 0 rfl) ?_
            refine lv_iload_n hx hb dX6_readWork_56 rfl (lv_at hl 1 rfl) ?_
            refine x_iast (ws2 := MW g o ((mZ r), (mP r), (mK r), (mA r), (mB r), (upd (mO r) (3 * mT r) (ltM (mB r) (mY r) (mS r))), (mM r), (mI r), (mY r), (mT r), ((wtM 0 (uM r)).1), ((wtM 0 (uM r)).2))) X 6 (3 * mT r) hP hD hS rfl (ix_t0 _) (by omega) (Nat.le_of_ble_eq_true rfl) rfl dX6_readWork_57 (fun H locs hP hD hS => ?_)
            refine lv_iload_n hx hb dX6_readWork_58 rfl (lv_at hl 1 rfl) ?_
            refine lv_bipush (v := 102) hx hb dX6_readWork_59 (by decide) ?_
            refine lv_icmp_eq (tgt := 76) hx hb dX6_readWork_61 (by decide) (fun q9 => absurd q9 (show ¬ (ltM (mB r) (mY r) (mS r)) = 102 from c_1)) (fun c_34 => ?_)
            refine lv_iload_n hx hb dX6_readWork_64 rfl (lv_at hl 1 rfl) ?_
            refine lv_bipush (v := 111) hx hb dX6_readWork_65 (by decide) ?_
            refine lv_icmp_eq (tgt := 76) hx hb dX6_readWork_67 (by decide) (fun q9 => absurd q9 (show ¬ (ltM (mB r) (mY r) (mS r)) = 111 from c_27)) (fun c_35 => ?_)
            refine lv_iload_n hx hb dX6_readWork_70 rfl (lv_at hl 1 rfl) ?_
            refine lv_bipush (v := 98) hx hb dX6_readWork_71 (by decide) ?_
            refine lv_icmp_ne (tgt := 89) hx hb dX6_readWork_73 (by decide) (fun c_36 => ?_) (fun q9 => absurd (show (ltM (mB r) (mY r) (mS r)) = 98 from q9) (show ¬ (ltM (mB r) (mY r) (mS r)) = 98 from c_33))
            refine lv_iload_n hx hb dX6_readWork_89 rfl (lv_at hl 1 rfl) ?_
            refine lv_bipush (v := 102) hx hb dX6_readWork_90 (by decide) ?_
            refine lv_icmp_ne (tgt := 111) hx hb dX6_readWork_92 (by decide) (fun c_37 => ?_) (fun q9 => absurd (show (ltM (mB r) (mY r) (mS r)) = 102 from q9) (show ¬ (ltM (mB r) (mY r) (mS r)) = 102 from c_1))
            refine lv_iload_n hx hb dX6_readWork_111 rfl (lv_at hl 1 rfl) ?_
            refine lv_bipush (v := 107) hx hb dX6_readWork_112 (by decide) ?_
            refine lv_icmp_ne (tgt := 188) hx hb dX6_readWork_114 (by decide) (fun c_38 => ?_) (fun q9 => absurd (show (ltM (mB r) (mY r) (mS r)) = 107 from q9) (show ¬ (ltM (mB r) (mY r) (mS r)) = 107 from c_6))
            refine lv_iload_n hx hb dX6_readWork_188 rfl (lv_at hl 1 rfl) ?_
            refine lv_bipush (v := 119) hx hb dX6_readWork_189 (by decide) ?_
            refine lv_icmp_ne (tgt := 210) hx hb dX6_readWork_191 (by decide) (fun c_39 => ?_) (fun q9 => absurd (show (ltM (mB r) (mY r) (mS r)) = 119 from q9) (show ¬ (ltM (mB r) (mY r) (mS r)) = 119 from c_20))
            refine lv_aload_n hx hb dX6_readWork_210 rfl (lv_at hl 2 rfl) ?_
            refine lv_dup hx hb dX6_readWork_211 rfl ?_
            refine x_get (v := .int (nI (mT r))) X 0 9 in_X6 hP rfl rfl (by decide) wF_X6_151 rfl rfl dX6_readWork_212 ?_
            refine lv_iconst (v := 1) hx hb dX6_readWork_215 (by decide) ?_
            refine lv_iadd hx hb dX6_readWork_216 ?_
            refine W.eq (g2 := F0 m 217 ls [.int (nI ((mT r) + 1)), .ref (o 0)]) (by rw [nI_1]) ?_
            refine x_put (v := .int (nI ((mT r) + 1))) (ty0 := tyX6) (ws2 := MW g o ((mZ r), (mP r), (mK r), (mA r), (mB r), (upd (mO r) (3 * mT r) (ltM (mB r) (mY r) (mS r))), (mM r), (mI r), (mY r), ((mT r) + 1), ((wtM 0 (uM r)).1), ((wtM 0 (uM r)).2))) X 0 9 in_X6 tyX6_ok nmX6 hP hD hS rfl rfl (by decide) wF_X6_151 rfl rfl rfl rfl (Nat.le_of_ble_eq_true rfl) rfl dX6_readWork_217 (fun H locs hP hD hS => ?_)
            have E : (MW g o ((mZ r), (mP r), (mK r), (mA r), (mB r), (upd (mO r) (3 * mT r) (ltM (mB r) (mY r) (mS r))), (mM r), (mI r), (mY r), ((mT r) + 1), ((wtM 0 (uM r)).1), ((wtM 0 (uM r)).2)) : va_W) = MW g o (rwM r) := by (simp only [rwM, if_neg c_1, if_neg c_6, if_neg c_20, if_neg c_27, if_neg c_33]) <;> rfl
            exact x_vret X hr hlocks (pw E hP) (dw E hD) hS dX6_readWork_220
          · refine lv_iconst (v := 1) hx hb dX6_readWork_36 (by decide) ?_
            refine lv_goto (tgt := 41) hx hb dX6_readWork_37 (by decide) ?_
            refine x_goV (wn := MW g o ((mZ r), (mP r), (mK r), (mA r), (mB r), (mO r), (mM r), (mI r), (mY r), (mT r), ((wtM 1 (uM r)).1), ((wtM 1 (uM r)).2))) (x_rV (As := [.int 1]) X (c_X6_wants l g o r  1 _) yf_X6_wants yi_X6_wants wM_X6_144 ⟨Nat.le_of_ble_eq_true rfl, Nat.le_of_ble_eq_true rfl⟩ hP hD (p_all _) 0 rfl rfl hl rfl rfl (Nat.le_of_ble_eq_true rfl) dX6_readWork_41 ⟨Nat.zero_le _, Nat.zero_le _⟩) hP hD hS hA (p_all _) (p_back _) (fun H locs hP hD hS => ?_)
            refine lv_iconst (v := 3) hx hb dX6_readWork_44 (by decide) ?_
            refine lv_aload_n hx hb dX6_readWork_45 rfl (lv_at hl 1 rfl) ?_
            refine x_get (v := .int (nI (mT r))) X 0 9 in_X6 hP rfl rfl (by decide) wF_X6_151 rfl rfl dX6_readWork_46 ?_
            refine lv_imul hx hb dX6_readWork_49 ?_
            refine lv_istore_n (lv' := [(2, .int (3 * (nI (mT r)))), (1, .int (ltM (mB r) (mY r) (mS r))), (0, .ref (o 0))]) hx hb dX6_readWork_50 rfl hl (by decide) rfl (fun ls hl => ?_)
            refine lv_aload_n hx hb dX6_readWork_51 rfl (lv_at hl 2 rfl) ?_
            refine x_get (v := .ref (o 6)) X 0 8 in_X6 hP rfl rfl (by decide) wF_X6_26 rfl rfl dX6_readWork_52 ?_
            refine lv_iload_n hx hb dX6_readWork_55 rfl (lv_at hl 0 rfl) ?_
            refine lv_iload_n hx hb dX6_readWork_56 rfl (lv_at hl 1 rfl) ?_
            refine x_iast (ws2 := MW g o ((mZ r), (mP r), (mK r), (mA r), (mB r), (upd (mO r) (3 * mT r) (ltM (mB r) (mY r) (mS r))), (mM r), (mI r), (mY r), (mT r), ((wtM 1 (uM r)).1), ((wtM 1 (uM r)).2))) X 6 (3 * mT r) hP hD hS rfl (ix_t0 _) (by omega) (Nat.le_of_ble_eq_true rfl) rfl dX6_readWork_57 (fun H locs hP hD hS => ?_)
            refine lv_iload_n hx hb dX6_readWork_58 rfl (lv_at hl 1 rfl) ?_
            refine lv_bipush (v := 102) hx hb dX6_readWork_59 (by decide) ?_
            refine lv_icmp_eq (tgt := 76) hx hb dX6_readWork_61 (by decide) (fun q9 => absurd q9 (show ¬ (ltM (mB r) (mY r) (mS r)) = 102 from (fun q8 => absurd (c_33.symm.trans q8) (by decide)))) (fun c_40 => ?_)
            refine lv_iload_n hx hb dX6_readWork_64 rfl (lv_at hl 1 rfl) ?_
            refine lv_bipush (v := 111) hx hb dX6_readWork_65 (by decide) ?_
            refine lv_icmp_eq (tgt := 76) hx hb dX6_readWork_67 (by decide) (fun q9 => absurd q9 (show ¬ (ltM (mB r) (mY r) (mS r)) = 111 from (fun q8 => absurd (c_33.symm.trans q8) (by decide)))) (fun c_41 => ?_)
            refine lv_iload_n hx hb dX6_readWork_70 rfl (lv_at hl 1 rfl) ?_
            refine lv_bipush (v := 98) hx hb dX6_readWork_71 (by decide) ?_
            refine lv_icmp_ne (tgt := 89) hx hb dX6_readWork_73 (by decide) (fun q9 => absurd (show (ltM (mB r) (mY r) (mS r)) = 98 from c_33) q9) (fun c_42 => ?_)
            refine lv_aload_n hx hb dX6_readWork_76 rfl (lv_at hl 2 rfl) ?_
            refine x_get (v := .ref (o 6)) X 0 8 in_X6 hP rfl rfl (by decide) wF_X6_26 rfl rfl dX6_readWork_77 ?_
            refine lv_iload_n hx hb dX6_readWork_80 rfl (lv_at hl 0 rfl) ?_
            refine lv_iconst (v := 1) hx hb dX6_readWork_81 (by decide) ?_
            refine lv_iadd hx hb dX6_readWork_82 ?_
            refine lv_aload_n hx hb dX6_readWork_83 rfl (lv_at hl 2 rfl) ?_
            refine lv_iconst (v := 3) hx hb dX6_readWork_84 (by decide) ?_
            refine x_goI (wn := MW g o ((mZ r), (mP r), (mK r), (mA r), (mB r), (upd (mO r) (3 * mT r) (ltM (mB r) (mY r) (mS r))), (mM r), (mI r), (mY r), (mT r), ((figU (mB r) (mY r) 3 (wtM 1 (uM r))).1), ((figU (mB r) (mY r) 3 (wtM 1 (uM r))).2))) (x_rV (As := [.int 3]) X (c_X6_figure l g o ((mZ r), (mP r), (mK r), (mA r), (mB r), (upd (mO r) (3 * mT r) (ltM (mB r) (mY r) (mS r))), (mM r), (mI r), (mY r), (mT r), ((wtM 1 (uM r)).1), ((wtM 1 (uM r)).2)) hy6 (show (wtM 1 (uM r)).1 < 1000 from by have q1 := wt_le 1 (uM r); have q0 : (uM r).1 = mS r := rfl; omega) 3  _) yf_X6_figure yi_X6_figure wM_X6_148 ⟨Nat.le_of_ble_eq_true rfl, Nat.le_of_ble_eq_true rfl⟩ hP hD (p_all _) 0 rfl rfl hl rfl rfl (Nat.le_of_ble_eq_true rfl) dX6_readWork_85 ⟨Nat.zero_le _, Nat.zero_le _⟩) hP hD hS hA (p_all _) (p_back _) (fun H locs hP hD hS => ?_)
            refine x_iast (ws2 := MW g o ((mZ r), (mP r), (mK r), (mA r), (mB r), (upd (upd (mO r) (3 * mT r) (ltM (mB r) (mY r) (mS r))) (3 * mT r + 1) (fgM (mB r) (mY r) (wtM 1 (uM r)).1)), (mM r), (mI r), (mY r), (mT r), ((figU (mB r) (mY r) 3 (wtM 1 (uM r))).1), ((figU (mB r) (mY r) 3 (wtM 1 (uM r))).2))) X 6 (3 * mT r + 1) hP hD hS rfl (ix_t1 _) (by omega) (Nat.le_of_ble_eq_true rfl) rfl dX6_readWork_88 (fun H locs hP hD hS => ?_)
            refine lv_iload_n hx hb dX6_readWork_89 rfl (lv_at hl 1 rfl) ?_
            refine lv_bipush (v := 102) hx hb dX6_readWork_90 (by decide) ?_
            refine lv_icmp_ne (tgt := 111) hx hb dX6_readWork_92 (by decide) (fun c_43 => ?_) (fun q9 => absurd (show (ltM (mB r) (mY r) (mS r)) = 102 from q9) (show ¬ (ltM (mB r) (mY r) (mS r)) = 102 from (fun q8 => absurd (c_33.symm.trans q8) (by decide))))
            refine lv_iload_n hx hb dX6_readWork_111 rfl (lv_at hl 1 rfl) ?_
            refine lv_bipush (v := 107) hx hb dX6_readWork_112 (by decide) ?_
            refine lv_icmp_ne (tgt := 188) hx hb dX6_readWork_114 (by decide) (fun c_44 => ?_) (fun q9 => absurd (show (ltM (mB r) (mY r) (mS r)) = 107 from q9) (show ¬ (ltM (mB r) (mY r) (mS r)) = 107 from (fun q8 => absurd (c_33.symm.trans q8) (by decide))))
            refine lv_iload_n hx hb dX6_readWork_188 rfl (lv_at hl 1 rfl) ?_
            refine lv_bipush (v := 119) hx hb dX6_readWork_189 (by decide) ?_
            refine lv_icmp_ne (tgt := 210) hx hb dX6_readWork_191 (by decide) (fun c_45 => ?_) (fun q9 => absurd (show (ltM (mB r) (mY r) (mS r)) = 119 from q9) (show ¬ (ltM (mB r) (mY r) (mS r)) = 119 from (fun q8 => absurd (c_33.symm.trans q8) (by decide))))
            refine lv_aload_n hx hb dX6_readWork_210 rfl (lv_at hl 2 rfl) ?_
            refine lv_dup hx hb dX6_readWork_211 rfl ?_
            refine x_get (v := .int (nI (mT r))) X 0 9 in_X6 hP rfl rfl (by decide) wF_X6_151 rfl rfl dX6_readWork_212 ?_
            refine lv_iconst (v := 1) hx hb dX6_readWork_215 (by decide) ?_
            refine lv_iadd hx hb dX6_readWork_216 ?_
            refine W.eq (g2 := F0 m 217 ls [.int (nI ((mT r) + 1)), .ref (o 0)]) (by rw [nI_1]) ?_
            refine x_put (v := .int (nI ((mT r) + 1))) (ty0 := tyX6) (ws2 := MW g o ((mZ r), (mP r), (mK r), (mA r), (mB r), (upd (upd (mO r) (3 * mT r) (ltM (mB r) (mY r) (mS r))) (3 * mT r + 1) (fgM (mB r) (mY r) (wtM 1 (uM r)).1)), (mM r), (mI r), (mY r), ((mT r) + 1), ((figU (mB r) (mY r) 3 (wtM 1 (uM r))).1), ((figU (mB r) (mY r) 3 (wtM 1 (uM r))).2))) X 0 9 in_X6 tyX6_ok nmX6 hP hD hS rfl rfl (by decide) wF_X6_151 rfl rfl rfl rfl (Nat.le_of_ble_eq_true rfl) rfl dX6_readWork_217 (fun H locs hP hD hS => ?_)
            have E : (MW g o ((mZ r), (mP r), (mK r), (mA r), (mB r), (upd (upd (mO r) (3 * mT r) (ltM (mB r) (mY r) (mS r))) (3 * mT r + 1) (fgM (mB r) (mY r) (wtM 1 (uM r)).1)), (mM r), (mI r), (mY r), ((mT r) + 1), ((figU (mB r) (mY r) 3 (wtM 1 (uM r))).1), ((figU (mB r) (mY r) 3 (wtM 1 (uM r))).2)) : va_W) = MW g o (rwM r) := by (simp only [rwM, if_neg c_1, if_neg c_6, if_neg c_20, if_neg c_27, if_pos c_33]) <;> rfl
            exact x_vret X hr hlocks (pw E hP) (dw E hD) hS dX6_readWork_220

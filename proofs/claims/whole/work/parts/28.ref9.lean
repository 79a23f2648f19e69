def keepR (r q : MS) : Prop := mZ r = mZ q ∧ mP r = mP q ∧ mK r = mK q ∧ mA r = mA q ∧ mB r = mB q ∧ mM r = mM q ∧ mI r = mI q ∧ mY r = mY q
theorem keepR.tr {r q u : MS} (h1 : keepR r q) (h2 : keepR q u) : keepR r u := by
  obtain ⟨a1, a2, a3, a4, a5, a6, a7, a8⟩ := h1
  obtain ⟨b1, b2, b3, b4, b5, b6, b7, b8⟩ := h2
  exact ⟨a1.trans b1, a2.trans b2, a3.trans b3, a4.trans b4, a5.trans b5, a6.trans b6, a7.trans b7, a8.trans b8⟩
theorem rwG_keep (r : MS) (O : RI) (u : Nat × Int32) : keepR (rwG r O u) r := ⟨rfl, rfl, rfl, rfl, rfl, rfl, rfl, rfl⟩
theorem rwM_keep (r : MS) : keepR (rwM r) r := by
  unfold rwM
  split
  · exact rwG_keep _ _ _
  · split
    · exact rwG_keep _ _ _
    · split
      · exact rwG_keep _ _ _
      · split
        · exact rwG_keep _ _ _
        · split <;> exact rwG_keep _ _ _
theorem ep1_keep (r : MS) : keepR (ep1 r) r := keepR.tr (show keepR (ep1 r) (rwM r) from ⟨rfl, rfl, rfl, rfl, rfl, rfl, rfl, rfl⟩) (rwM_keep r)
theorem epL_keep : ∀ (n : Nat) (r : MS), keepR (epL n r) r := by
  intro n
  induction n with
  | zero => exact fun r => ⟨rfl, rfl, rfl, rfl, rfl, rfl, rfl, rfl⟩
  | succ n ih =>
    intro r
    unfold epL
    split
    · split
      · exact rwM_keep r
      · split
        · exact (ih (ep1 r)).tr (ep1_keep r)
        · exact ep1_keep r
    · exact rwM_keep r
def cnM (z : RI) : Nat := (z 7).toNatClampNeg
theorem cnM_of {z : RI} {cn : Nat} (hc : cn ≤ 6) (hz : z 7 = nI cn) : cnM z = cn := by unfold cnM; rw [hz, nI_clamp (by omega)]
def okz (z : RI) : Prop := ∃ cn, cn ≤ 6 ∧ z 7 = nI cn
def dw1 (O : RI) (k : Nat) (z : RI) : RI := dzZ z (cnM z) (O (3 * k)) (O (3 * k + 1)) (O (3 * k + 2))
def dwR (O : RI) (k : Nat) (z : RI) : Int32 := dzR z (cnM z) (O (3 * k)) (O (3 * k + 1)) (O (3 * k + 2))
theorem dw1_of {O z : RI} {k cn : Nat} (hc : cn ≤ 6) (hz : z 7 = nI cn) : dw1 O k z = dzZ z cn (O (3 * k)) (O (3 * k + 1)) (O (3 * k + 2)) := by unfold dw1; rw [cnM_of hc hz]
theorem dwR_of {O z : RI} {k cn : Nat} (hc : cn ≤ 6) (hz : z 7 = nI cn) : dwR O k z = dzR z cn (O (3 * k)) (O (3 * k + 1)) (O (3 * k + 2)) := by unfold dwR; rw [cnM_of hc hz]
def doL (O : RI) : Nat → Nat → RI → Nat × RI
  | 0, k, z => (k, z)
  | n + 1, k, z => if dwR O k z = 0 then doL O n (k + 1) (dw1 O k z) else (k, dw1 O k z)
theorem doL_s {O z : RI} {k n cn : Nat} (hc : cn ≤ 6) (hz : z 7 = nI cn) (h : dzR z cn (O (3 * k)) (O (3 * k + 1)) (O (3 * k + 2)) = 0) : doL O (n + 1) k z = doL O n (k + 1) (dzZ z cn (O (3 * k)) (O (3 * k + 1)) (O (3 * k + 2))) := by
  have q : doL O (n + 1) k z = if dwR O k z = 0 then doL O n (k + 1) (dw1 O k z) else (k, dw1 O k z) := rfl
  rw [q, dwR_of hc hz, if_pos h, dw1_of hc hz]
theorem doL_f {O z : RI} {k n cn : Nat} (hc : cn ≤ 6) (hz : z 7 = nI cn) (h : ¬ dzR z cn (O (3 * k)) (O (3 * k + 1)) (O (3 * k + 2)) = 0) : doL O (n + 1) k z = (k, dzZ z cn (O (3 * k)) (O (3 * k + 1)) (O (3 * k + 2))) := by
  have q : doL O (n + 1) k z = if dwR O k z = 0 then doL O n (k + 1) (dw1 O k z) else (k, dw1 O k z) := rfl
  rw [q, dwR_of hc hz, if_neg h, dw1_of hc hz]
def mWk (r : MS) : Int32 × MS := (nI (doL (mO r) (mT r) 0 (mZ r)).1, mty (mz (mrec r) (doL (mO r) (mT r) 0 (mZ r)).2) 0 (mB (mrec r)))
def mWork (r : MS) (nf : Nat) : Int32 × MS := if mW (epL nf (epS r)) = -1000 then mWk (epL nf (epS r)) else (-1005, epL nf (epS r))
set_option maxHeartbeats 4000000 in
set_option maxRecDepth 100000 in
theorem c_X6_work (l : Launch) (g : wG) (o : Nat → Nat) (r : MS) (hy6 : mY r ≤ 60) (hm5 : mM r ≤ 5) (hok : okz (mZ r)) (nf : Nat) (hnf : mY r < 0 + nf) (hT : mW (epL nf (epS r)) = -1000 → mT (epL nf (epS r)) ≤ 20 ∧ ∀ k, k < mT (epL nf (epS r)) → okT (mO (epL nf (epS r))) (3 * k)) : CtI l g 7 yX6_work cX6_work 2 (some .int) [.ref (o 0)] (MW g o r) ((mWork r nf).1) (MW g o (mWork r nf).2) := by
  intro sz
  refine x_enter (Qc := fun A => QI g A ((mWork r nf).1) (MW g o (mWork r nf).2)) (by decide) (Nat.le_of_ble_eq_true rfl) ?_
  intro p e s m args below meth c X hr hlocks A hA hP hD hS ls hl
  obtain ⟨⟨hx, hb, hml, hown, hts⟩, hK, hN⟩ := id X
  have hl : lv_has ls 2 [(0, .ref (o 0))] := hl
  refine lv_aload_n hx hb dX6_work_0 rfl (lv_at hl 0 rfl) ?_
  refine x_goI (wn := MW g o (epL nf (epS r))) (x_rV (As := []) X (c_X6_errorPosition l g o r hy6 nf hnf  _) yf_X6_errorPosition yi_X6_errorPosition wM_X6_163 ⟨Nat.le_of_ble_eq_true rfl, Nat.le_of_ble_eq_true rfl⟩ hP hD (p_all _) 0 rfl rfl hl rfl rfl (Nat.le_of_ble_eq_true rfl) dX6_work_1 ⟨Nat.zero_le _, Nat.zero_le _⟩) hP hD hS hA (p_all _) (p_back _) (fun H locs hP hD hS => ?_)
  obtain ⟨ee, he⟩ : ∃ y : MS, y = epL nf (epS r) := ⟨_, rfl⟩
  have hP : va_P g.1 vwCl (MW g o ee) H := by rw [he]; exact hP
  have hD : va_D A (MW g o ee) := by rw [he]; exact hD
  refine W.eq (g2 := F0 m 4 ls [.int (mW ee)]) (by rw [he]) ?_
  have kp := epL_keep nf (epS r)
  rw [← he] at kp hT
  have h5 : mM ee ≤ 5 := by rw [kp.2.2.2.2.2.1]; exact hm5
  have hokE : okz (mZ ee) := by rw [kp.1]; exact hok
  refine lv_sipush (v := (-1000)) hx hb dX6_work_4 (by decide) ?_
  refine lv_icmp_eq (tgt := 14) hx hb dX6_work_7 (by decide) (fun (c_1 : (mW ee) = (-1000)) => ?_) (fun (c_1 : ¬ (mW ee) = (-1000)) => ?_)
  · refine lv_aload_n hx hb dX6_work_14 rfl (lv_at hl 0 rfl) ?_
    refine x_goV (wn := MW g o (mrec ee)) (x_rV (As := []) X (c_X6_record l g o ee h5  _) yf_X6_record yi_X6_record wM_X6_45 ⟨Nat.le_of_ble_eq_true rfl, Nat.le_of_ble_eq_true rfl⟩ hP hD (p_all _) 0 rfl rfl hl rfl rfl (Nat.le_of_ble_eq_true rfl) dX6_work_15 ⟨Nat.zero_le _, Nat.zero_le _⟩) hP hD hS hA (p_all _) (p_back _) (fun H locs hP hD hS => ?_)
    obtain ⟨e2, he2⟩ : ∃ y : MS, y = mrec ee := ⟨_, rfl⟩
    have hP : va_P g.1 vwCl (MW g o e2) H := by rw [he2]; exact hP
    have hD : va_D A (MW g o e2) := by rw [he2]; exact hD
    obtain ⟨hT20, hTok⟩ := hT c_1
    have t2 : mT e2 = mT ee := by rw [he2]; rfl
    have o2 : mO e2 = mO ee := by rw [he2]; rfl
    refine lv_iconst (v := 0) hx hb dX6_work_18 (by decide) ?_
    refine lv_istore_n (lv' := [(1, .int 0), (0, .ref (o 0))]) hx hb dX6_work_19 rfl hl (by decide) rfl (fun ls hl => ?_)
    suffices LP20 : ∀ (n : Nat) (k : Nat) (z : RI), k + n = mT e2 → okz z → doL (mO e2) n k z = doL (mO ee) (mT ee) 0 (mZ ee) → ∀ (ls : Array Slot) (H : Heap) (locs : List Loc), va_P g.1 vwCl (MW g o (mz e2 z)) H → va_D A (MW g o (mz e2 z)) → va_S A s.heap H locs → lv_has ls 2 [(1, .int (nI k)), (0, .ref (o 0))] → W p l e (rmD 7) s m args below meth c H locs 0 0 (MQ below (QI g A ((mWork r nf).1) (MW g o (mWork r nf).2)) args s 0 0 A) (F0 m 20 ls []) from LP20 (mT e2) 0 (mZ e2) (Nat.zero_add _) (by rw [he2]; exact hokE) (by rw [he2]; rfl) ls _ _ hP hD hS (lv_sub hl [0, 1] rfl)
    intro n
    induction n with
    | zero =>
      intro k z hk hz7 ht ls H locs hP hD hS hl
      refine lv_iload_n hx hb dX6_work_20 rfl (lv_at hl 0 rfl) ?_
      refine lv_aload_n hx hb dX6_work_21 rfl (lv_at hl 1 rfl) ?_
      refine x_get (v := .int (nI (mT e2))) X 0 9 in_X6 hP rfl rfl (by decide) wF_X6_151 rfl rfl dX6_work_22 ?_
      refine lv_icmp_ge (tgt := 44) hx hb dX6_work_25 (by decide) (fun c_2 => ?_) (fun q9 => absurd (show (nI (mT e2)) ≤ (nI k) from (nI_le (by omega) (by omega))) (show ¬ ((nI (mT e2)) ≤ (nI k)) from q9))
      refine lv_aload_n hx hb dX6_work_44 rfl (lv_at hl 1 rfl) ?_
      refine lv_iconst (v := 0) hx hb dX6_work_45 (by decide) ?_
      refine x_put (v := .int 0) (ty0 := tyX6) (ws2 := MW g o (z, (mP e2), (mK e2), (mA e2), (mB e2), (mO e2), (mM e2), (mI e2), 0, (mT e2), (mS e2), (mW e2))) X 0 7 in_X6 tyX6_ok nmX6 hP hD hS rfl rfl (by decide) wF_X6_132 rfl rfl rfl rfl (Nat.le_of_ble_eq_true rfl) rfl dX6_work_46 (fun H locs hP hD hS => ?_)
      refine lv_iload_n hx hb dX6_work_49 rfl (lv_at hl 0 rfl) ?_
      have E2 : doL (mO ee) (mT ee) 0 (mZ ee) = (k, z) := (ht.symm.trans rfl)
      have E1 : mWork r nf = (nI k, mty (mz e2 z) 0 (mB e2)) := by unfold mWork; rw [← he]; refine (if_pos c_1).trans ?_; unfold mWk; rw [E2, ← he2]
      have E : (MW g o (z, (mP e2), (mK e2), (mA e2), (mB e2), (mO e2), (mM e2), (mI e2), 0, (mT e2), (mS e2), (mW e2)) : va_W) = MW g o (mWork r nf).2 := congrArg (fun q => MW g o q.2) E1.symm
      exact x_iret X hr hlocks (pw E hP) (dw E hD) hS (congrArg (fun q => q.1) E1.symm) dX6_work_50
    | succ n ih =>
      intro k z hk hz7 ht ls H locs hP hD hS hl
      obtain ⟨cn, hc, hz⟩ := hz7
      refine lv_iload_n hx hb dX6_work_20 rfl (lv_at hl 0 rfl) ?_
      refine lv_aload_n hx hb dX6_work_21 rfl (lv_at hl 1 rfl) ?_
      refine x_get (v := .int (nI (mT e2))) X 0 9 in_X6 hP rfl rfl (by decide) wF_X6_151 rfl rfl dX6_work_22 ?_
      refine lv_icmp_ge (tgt := 44) hx hb dX6_work_25 (by decide) (fun q9 => absurd q9 (show ¬ (nI (mT e2)) ≤ (nI k) from (nI_ge (by omega) (by omega)))) (fun c_3 => ?_)
      refine lv_aload_n hx hb dX6_work_28 rfl (lv_at hl 1 rfl) ?_
      refine lv_iconst (v := 3) hx hb dX6_work_29 (by decide) ?_
      refine lv_iload_n hx hb dX6_work_30 rfl (lv_at hl 0 rfl) ?_
      refine lv_imul hx hb dX6_work_31 ?_
      refine W.eq (g2 := F0 m 32 ls [.int (nI (3 * k)), .ref (o 0)]) (by rw [ix_t0]) ?_
      refine x_goI (wn := MW g o (mz e2 (dzZ z cn (mO e2 (3 * k)) (mO e2 (3 * k + 1)) (mO e2 (3 * k + 2))))) (x_rV (As := [.int (nI (3 * k))]) X (c_X6_doOne l g o (mz e2 z) cn hc hz (3 * k) (by omega) (show okT (mO e2) (3 * k) from by rw [o2]; exact hTok k (by omega))  _) yf_X6_doOne yi_X6_doOne wM_X6_166 ⟨Nat.le_of_ble_eq_true rfl, Nat.le_of_ble_eq_true rfl⟩ hP hD (p_all _) 0 rfl rfl hl rfl rfl (Nat.le_of_ble_eq_true rfl) dX6_work_32 ⟨Nat.zero_le _, Nat.zero_le _⟩) hP hD hS hA (p_all _) (p_back _) (fun H locs hP hD hS => ?_)
      refine lv_if_ne (tgt := 44) hx hb dX6_work_35 (by decide) (fun (c_4 : ¬ (dzR z cn (mO e2 (3 * k)) (mO e2 (3 * k + 1)) (mO e2 (3 * k + 2))) = 0) => ?_) (fun (c_4 : (dzR z cn (mO e2 (3 * k)) (mO e2 (3 * k + 1)) (mO e2 (3 * k + 2))) = 0) => ?_)
      · refine lv_aload_n hx hb dX6_work_44 rfl (lv_at hl 1 rfl) ?_
        refine lv_iconst (v := 0) hx hb dX6_work_45 (by decide) ?_
        refine x_put (v := .int 0) (ty0 := tyX6) (ws2 := MW g o ((dzZ z cn (mO e2 (3 * k)) (mO e2 (3 * k + 1)) (mO e2 (3 * k + 2))), (mP e2), (mK e2), (mA e2), (mB e2), (mO e2), (mM e2), (mI e2), 0, (mT e2), (mS e2), (mW e2))) X 0 7 in_X6 tyX6_ok nmX6 hP hD hS rfl rfl (by decide) wF_X6_132 rfl rfl rfl rfl (Nat.le_of_ble_eq_true rfl) rfl dX6_work_46 (fun H locs hP hD hS => ?_)
        refine lv_iload_n hx hb dX6_work_49 rfl (lv_at hl 0 rfl) ?_
        have E2 : doL (mO ee) (mT ee) 0 (mZ ee) = (k, (dzZ z cn (mO e2 (3 * k)) (mO e2 (3 * k + 1)) (mO e2 (3 * k + 2)))) := (ht.symm.trans (doL_f hc hz c_4))
        have E1 : mWork r nf = (nI k, mty (mz e2 (dzZ z cn (mO e2 (3 * k)) (mO e2 (3 * k + 1)) (mO e2 (3 * k + 2)))) 0 (mB e2)) := by unfold mWork; rw [← he]; refine (if_pos c_1).trans ?_; unfold mWk; rw [E2, ← he2]
        have E : (MW g o ((dzZ z cn (mO e2 (3 * k)) (mO e2 (3 * k + 1)) (mO e2 (3 * k + 2))), (mP e2), (mK e2), (mA e2), (mB e2), (mO e2), (mM e2), (mI e2), 0, (mT e2), (mS e2), (mW e2)) : va_W) = MW g o (mWork r nf).2 := congrArg (fun q => MW g o q.2) E1.symm
        exact x_iret X hr hlocks (pw E hP) (dw E hD) hS (congrArg (fun q => q.1) E1.symm) dX6_work_50
      · refine lv_iinc (v := (nI (k + 1))) (lv' := [(1, .int (nI (k + 1))), (0, .ref (o 0))]) hx hb dX6_work_38 hl (k := 0) rfl (nI_1 _) (by decide) rfl (fun ls hl => ?_)
        refine lv_goto (tgt := 20) hx hb dX6_work_41 (by decide) ?_
        exact ih (k + 1) (dzZ z cn (mO e2 (3 * k)) (mO e2 (3 * k + 1)) (mO e2 (3 * k + 2))) (by omega) (dzZ_7 _ _ _ hc hz) ((doL_s hc hz c_4).symm.trans ht) ls _ _ hP hD hS (lv_sub hl [0, 1] rfl)
  · refine lv_sipush (v := (-1005)) hx hb dX6_work_10 (by decide) ?_
    have E1 : mWork r nf = (-1005, ee) := by unfold mWork; rw [← he]; exact if_neg c_1
    have E : (MW g o ee : va_W) = MW g o (mWork r nf).2 := congrArg (fun q => MW g o q.2) E1.symm
    exact x_iret X hr hlocks (pw E hP) (dw E hD) hS (congrArg (fun q => q.1) E1.symm) dX6_work_13

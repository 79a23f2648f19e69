theorem wt_ok {b : Int32} {u : Nat × Int32} (hu : u.1 < 2 ^ 31) (h : (wtM b u).2 = -1000) : u.2 = -1000 ∧ ¬ b = 0 ∧ (wtM b u).1 = u.1 + 1 := by
  unfold wtM at h ⊢
  by_cases hw : u.2 = -1000
  · rw [if_pos hw] at h ⊢
    refine ⟨hw, fun h0 => ?_, rfl⟩
    have h' : nI u.1 = -1000 := by rw [if_pos h0] at h; exact h
    exact absurd h' (ne1000 hu)
  · rw [if_neg hw] at h
    exact absurd h hw
theorem isw_end (x : Int32) : isw (-1000 - 48) 0 x = 0 := by
  unfold isw
  rw [if_pos (by decide)]
theorem fig_ok {B : RI} {Y : Nat} {x : Int32} {u : Nat × Int32} (hu : u.1 < 2 ^ 31) (h : (figU B Y x u).2 = -1000) : u.2 = -1000 ∧ (figU B Y x u).1 = u.1 + 1 ∧ u.1 + 1 ≤ Y := by
  obtain ⟨h1, h2, h3⟩ := wt_ok hu h
  refine ⟨h1, h3, ?_⟩
  rcases Nat.lt_or_ge u.1 Y with q | q
  · exact q
  · exfalso
    apply h2
    unfold fgM ltM
    rw [if_pos (nI_le q hu)]
    exact isw_end x
theorem clk_ok {B : RI} {Y : Nat} {u : Nat × Int32} (hu : u.1 < 1000) (h : (clkU B Y u).2 = -1000) : u.2 = -1000 ∧ (clkU B Y u).1 = u.1 + 5 ∧ u.1 + 5 ≤ Y := by
  have b1 : (ck1 B Y u).1 ≤ u.1 + 1 := wt_le _ _
  have b2 : (ck2 B Y u).1 ≤ (ck1 B Y u).1 + 1 := wt_le _ _
  have b3 : (ck3 B Y u).1 ≤ (ck2 B Y u).1 + 1 := wt_le _ _
  have b4 : (ck4 B Y u).1 ≤ (ck3 B Y u).1 + 1 := wt_le _ _
  obtain ⟨a5, c5, d5⟩ := fig_ok (u := ck4 B Y u) (by omega) h
  obtain ⟨a4, c4, d4⟩ := fig_ok (u := ck3 B Y u) (by omega) a5
  obtain ⟨a3, -, c3⟩ := wt_ok (u := ck2 B Y u) (by omega) a4
  obtain ⟨a2, c2, d2⟩ := fig_ok (u := ck1 B Y u) (by omega) a3
  obtain ⟨a1, c1, d1⟩ := fig_ok (u := u) (by omega) a2
  have c5' : (clkU B Y u).1 = (ck4 B Y u).1 + 1 := c5
  have c4' : (ck4 B Y u).1 = (ck3 B Y u).1 + 1 := c4
  have c3' : (ck3 B Y u).1 = (ck2 B Y u).1 + 1 := c3
  have c2' : (ck2 B Y u).1 = (ck1 B Y u).1 + 1 := c2
  have c1' : (ck1 B Y u).1 = u.1 + 1 := c1
  exact ⟨a1, by omega, by omega⟩
theorem nuL_rng (B : RI) (Y : Nat) (b : Int32) (n : Nat) : ∀ s x, s ≤ (nuL B Y b n s x).1 ∧ (nuL B Y b n s x).1 ≤ s + n := by
  induction n with
  | zero => intro s x; exact ⟨Nat.le_refl _, Nat.le_refl _⟩
  | succ n ih =>
    intro s x
    unfold nuL
    split
    · exact ⟨Nat.le_refl _, Nat.le_add_right _ _⟩
    · split
      · exact ⟨Nat.le_refl _, Nat.le_add_right _ _⟩
      · have h := ih (s + 1) ((10 * x) + fgM B Y s)
        exact ⟨by omega, by omega⟩
theorem num_ok {B : RI} {Y : Nat} {a b : Int32} (hA : isw (-1000 - 48) a 9 = 0) {u : Nat × Int32} (hu : u.1 < 2 ^ 31) (h : (nuU B Y a u).2 = -1000) : u.2 = -1000 ∧ u.1 + 1 ≤ (numP B Y a b u).1 ∧ (numP B Y a b u).1 ≤ Y := by
  obtain ⟨h1, -, h3⟩ := wt_ok hu h
  have h4 : (nuU B Y a u).1 ≤ Y := num_lt hA hu h
  have h3' : (nuU B Y a u).1 = u.1 + 1 := h3
  refine ⟨h1, ?_⟩
  unfold numP
  rw [if_pos h]
  split
  · show u.1 + 1 ≤ (nuU B Y a u).1 ∧ (nuU B Y a u).1 ≤ Y
    omega
  · have q := nuL_rng B Y b (Y - (nuU B Y a u).1) (nuU B Y a u).1 (fgM B Y u.1)
    omega
theorem rw_Y (r : MS) : mY (rwM r) = mY r := by
  unfold rwM
  split <;> try rfl
  split <;> try rfl
  split <;> try rfl
  split <;> try rfl
  split <;> rfl
theorem rw_T (r : MS) : mT (rwM r) = mT r + 1 := by
  unfold rwM
  split <;> try rfl
  split <;> try rfl
  split <;> try rfl
  split <;> try rfl
  split <;> rfl
theorem rwF1_e (r : MS) : rwF1 r = figU (mB r) (mY r) 3 (rwA r) := rfl
theorem rwF2_e (r : MS) : rwF2 r = clkU (mB r) (mY r) (rwF1 r) := rfl
theorem rwK1_e (r : MS) : rwK1 r = clkU (mB r) (mY r) (rwA r) := rfl
theorem rwK2_e (r : MS) : rwK2 r = wtM (okM (rw6 r)) (rwK1 r) := rfl
theorem rwNk_e (r : MS) : rwNk r = numP (mB r) (mY r) 0 30 (rwK2 r) := rfl
theorem rwNw_e (r : MS) : rwNw r = numP (mB r) (mY r) 1 2000 (rwA r) := rfl
theorem rwG_W (r : MS) (O : RI) (u : Nat × Int32) : mW (rwG r O u) = u.2 := rfl
theorem rwG_S (r : MS) (O : RI) (u : Nat × Int32) : mS (rwG r O u) = u.1 := rfl
theorem rwF1_ok {r : MS} (hs : mS r < 500) (h : (rwF1 r).2 = -1000) : (rwF1 r).1 = mS r + 2 ∧ mS r + 2 ≤ mY r := by
  have b1 : (rwA r).1 ≤ mS r + 1 := wt_le _ _
  rw [rwF1_e] at h ⊢
  obtain ⟨a2, c2, d2⟩ := fig_ok (u := rwA r) (by omega) h
  obtain ⟨-, -, c1⟩ := wt_ok (b := 1) (u := uM r) (show mS r < 2 ^ 31 by omega) a2
  have c1' : (rwA r).1 = mS r + 1 := c1
  exact ⟨by omega, by omega⟩
theorem rw_S (r : MS) (hs : mS r < 500) (h : mW (rwM r) = -1000) : mS r + 2 ≤ mS (rwM r) ∧ mS (rwM r) ≤ mY r := by
  have b1 : (rwA r).1 ≤ mS r + 1 := wt_le _ _
  have b2 : (rwF1 r).1 ≤ (rwA r).1 + 1 := by rw [rwF1_e]; exact fig_le _ _ _ _
  have b3 : (rwK1 r).1 ≤ (rwA r).1 + 5 := by rw [rwK1_e]; exact clk_le _ _ _
  have b4 : (rwK2 r).1 ≤ (rwK1 r).1 + 1 := by rw [rwK2_e]; exact wt_le _ _
  have u1 : (rwA r).2 = -1000 → (rwA r).1 = mS r + 1 := fun q => (wt_ok (b := 1) (u := uM r) (show mS r < 2 ^ 31 by omega) q).2.2
  unfold rwM at h ⊢
  by_cases k1 : ltM (mB r) (mY r) (mS r) = 102
  · rw [if_pos k1, rwG_W, rwF2_e] at h
    rw [if_pos k1, rwG_S, rwF2_e]
    obtain ⟨a, b, d⟩ := clk_ok (B := mB r) (Y := mY r) (u := rwF1 r) (by omega) h
    obtain ⟨e, f⟩ := rwF1_ok hs a
    exact ⟨by omega, by omega⟩
  · rw [if_neg k1] at h ⊢
    by_cases k2 : ltM (mB r) (mY r) (mS r) = 107
    · rw [if_pos k2, rwG_W] at h
      rw [if_pos k2, rwG_S, rwNk_e]
      dsimp only at h
      dsimp only
      obtain ⟨a, b, d⟩ := num_ok (B := mB r) (Y := mY r) (b := 30) (u := rwK2 r) (a := 0) (by decide) (by omega) h
      have c4 : (rwK2 r).2 = -1000 := a
      rw [rwK2_e] at c4
      obtain ⟨a2, -, c2⟩ := wt_ok (u := rwK1 r) (by omega) c4
      rw [← rwK2_e] at c2
      rw [rwK1_e] at a2
      obtain ⟨a3, c3, d3⟩ := clk_ok (B := mB r) (Y := mY r) (u := rwA r) (by omega) a2
      rw [← rwK1_e] at c3
      have w1 := u1 a3
      exact ⟨by omega, by omega⟩
    · rw [if_neg k2] at h ⊢
      by_cases k3 : ltM (mB r) (mY r) (mS r) = 119
      · rw [if_pos k3, rwG_W] at h
        rw [if_pos k3, rwG_S, rwNw_e]
        dsimp only at h
        dsimp only
        obtain ⟨a, b, d⟩ := num_ok (B := mB r) (Y := mY r) (b := 2000) (u := rwA r) (a := 1) (by decide) (by omega) h
        have w1 := u1 a
        exact ⟨by omega, by omega⟩
      · rw [if_neg k3] at h ⊢
        by_cases k4 : ltM (mB r) (mY r) (mS r) = 111
        · rw [if_pos k4, rwG_W] at h
          rw [if_pos k4, rwG_S]
          obtain ⟨e, f⟩ := rwF1_ok hs h
          exact ⟨by omega, by omega⟩
        · rw [if_neg k4] at h ⊢
          by_cases k5 : ltM (mB r) (mY r) (mS r) = 98
          · rw [if_pos k5, rwG_W] at h
            rw [if_pos k5, rwG_S]
            obtain ⟨e, f⟩ := rwF1_ok hs h
            exact ⟨by omega, by omega⟩
          · rw [if_neg k5, rwG_W] at h
            exact absurd rfl (wt_ok (u := uM r) (show mS r < 2 ^ 31 by omega) h).2.1
def epS (r : MS) : MS := (mZ r, mP r, mK r, mA r, mB r, mO r, mM r, mI r, mY r, 0, 0, -1000)
def ep1 (r : MS) : MS := msu (rwM r) (wtM (if ltM (mB (rwM r)) (mY (rwM r)) (mS (rwM r)) = 59 then 1 else 0) (uM (rwM r)))
def epL : Nat → MS → MS
  | 0, r => r
  | n + 1, r => if mW (rwM r) = -1000 then (if nI (mY (rwM r)) ≤ nI (mS (rwM r)) then rwM r else if mW (ep1 r) = -1000 then epL n (ep1 r) else ep1 r) else rwM r
set_option maxHeartbeats 4000000 in
set_option maxRecDepth 100000 in
theorem c_X6_errorPosition (l : Launch) (g : wG) (o : Nat → Nat) (r : MS) (hy6 : mY r ≤ 60) (nf : Nat) (hnf : mY r < 0 + nf) : CtI l g 4 yX6_errorPosition cX6_errorPosition 2 (some .int) [.ref (o 0)] (MW g o r) (mW (epL nf (epS r))) (MW g o (epL nf (epS r))) := by
  intro sz
  refine x_enter (Qc := fun A => QI g A (mW (epL nf (epS r))) (MW g o (epL nf (epS r)))) (by decide) (Nat.le_of_ble_eq_true rfl) ?_
  intro p e s m args below meth c X hr hlocks A hA hP hD hS ls hl
  obtain ⟨⟨hx, hb, hml, hown, hts⟩, hK, hN⟩ := id X
  have hl : lv_has ls 2 [(0, .ref (o 0))] := hl
  refine lv_aload_n hx hb dX6_errorPosition_0 rfl (lv_at hl 0 rfl) ?_
  refine lv_iconst (v := 0) hx hb dX6_errorPosition_1 (by decide) ?_
  refine x_put (v := .int 0) (ty0 := tyX6) (ws2 := MW g o ((mZ r), (mP r), (mK r), (mA r), (mB r), (mO r), (mM r), (mI r), (mY r), 0, (mS r), (mW r))) X 0 9 in_X6 tyX6_ok nmX6 hP hD hS rfl rfl (by decide) wF_X6_151 rfl rfl rfl rfl (Nat.le_of_ble_eq_true rfl) rfl dX6_errorPosition_2 (fun H locs hP hD hS => ?_)
  refine lv_aload_n hx hb dX6_errorPosition_5 rfl (lv_at hl 0 rfl) ?_
  refine lv_iconst (v := 0) hx hb dX6_errorPosition_6 (by decide) ?_
  refine x_put (v := .int 0) (ty0 := tyX6) (ws2 := MW g o ((mZ r), (mP r), (mK r), (mA r), (mB r), (mO r), (mM r), (mI r), (mY r), 0, 0, (mW r))) X 0 10 in_X6 tyX6_ok nmX6 hP hD hS rfl rfl (by decide) wF_X6_135 rfl rfl rfl rfl (Nat.le_of_ble_eq_true rfl) rfl dX6_errorPosition_7 (fun H locs hP hD hS => ?_)
  refine lv_aload_n hx hb dX6_errorPosition_10 rfl (lv_at hl 0 rfl) ?_
  refine lv_sipush (v := (-1000)) hx hb dX6_errorPosition_11 (by decide) ?_
  refine x_put (v := .int (-1000)) (ty0 := tyX6) (ws2 := MW g o ((mZ r), (mP r), (mK r), (mA r), (mB r), (mO r), (mM r), (mI r), (mY r), 0, 0, (-1000))) X 0 11 in_X6 tyX6_ok nmX6 hP hD hS rfl rfl (by decide) wF_X6_138 rfl rfl rfl rfl (Nat.le_of_ble_eq_true rfl) rfl dX6_errorPosition_14 (fun H locs hP hD hS => ?_)
  refine lv_iconst (v := 1) hx hb dX6_errorPosition_17 (by decide) ?_
  refine lv_istore_n (lv' := [(1, .int 1), (0, .ref (o 0))]) hx hb dX6_errorPosition_18 rfl hl (by decide) rfl (fun ls hl => ?_)
  refine lv_iload_n hx hb dX6_errorPosition_19 rfl (lv_at hl 0 rfl) ?_
  refine lv_if_eq (tgt := 95) hx hb dX6_errorPosition_20 (by decide) (fun q9 => absurd q9 (show ¬ (1 : Int32) = 0 from (by decide))) (fun c_1 => ?_)
  suffices LP23 : ∀ (n : Nat) (y : MS), mW y = -1000 → mS y ≤ mY y → mY y ≤ 60 → 3 * mT y ≤ mS y → mY y < mS y + n → epL n y = epL nf (epS r) → ∀ (ls : Array Slot) (H : Heap) (locs : List Loc), va_P g.1 vwCl (MW g o y) H → va_D A (MW g o y) → va_S A s.heap H locs → lv_has ls 2 [(0, .ref (o 0))] → W p l e (rmD 4) s m args below meth c H locs 0 0 (MQ below (QI g A (mW (epL nf (epS r))) (MW g o (epL nf (epS r)))) args s 0 0 A) (F0 m 23 ls []) from LP23 nf (epS r) rfl (Nat.zero_le _) hy6 (Nat.le_refl 0) hnf rfl ls _ _ hP hD hS (lv_sub hl [1] rfl)
  intro n
  induction n with
  | zero => intro y hW hSy hY hT hk; exact absurd hk (by omega)
  | succ n ih =>
    intro y hW hSy hY hT hk ht ls H locs hP hD hS hl
    refine lv_aload_n hx hb dX6_errorPosition_23 rfl (lv_at hl 0 rfl) ?_
    refine x_goV (wn := MW g o (rwM y)) (x_rV (As := []) X (c_X6_readWork l g o y hY (show mS y < 800 from by omega) (show mT y ≤ 20 from by omega)  _) yf_X6_readWork yi_X6_readWork wM_X6_160 ⟨Nat.le_of_ble_eq_true rfl, Nat.le_of_ble_eq_true rfl⟩ hP hD (p_all _) 0 rfl rfl hl rfl rfl (Nat.le_of_ble_eq_true rfl) dX6_errorPosition_24 ⟨Nat.zero_le _, Nat.zero_le _⟩) hP hD hS hA (p_all _) (p_back _) (fun H locs hP hD hS => ?_)
    refine lv_aload_n hx hb dX6_errorPosition_27 rfl (lv_at hl 0 rfl) ?_
    refine x_get (v := .int (mW (rwM y))) X 0 11 in_X6 hP rfl rfl (by decide) wF_X6_138 rfl rfl dX6_errorPosition_28 ?_
    refine lv_sipush (v := (-1000)) hx hb dX6_errorPosition_31 (by decide) ?_
    refine lv_icmp_ne (tgt := 52) hx hb dX6_errorPosition_34 (by decide) (fun (c_2 : ¬ (mW (rwM y)) = (-1000)) => ?_) (fun (c_2 : (mW (rwM y)) = (-1000)) => ?_)
    · refine lv_iconst (v := 0) hx hb dX6_errorPosition_52 (by decide) ?_
      refine lv_istore_n (lv' := [(1, .int 0), (0, .ref (o 0))]) hx hb dX6_errorPosition_53 rfl hl (by decide) rfl (fun ls hl => ?_)
      refine lv_iload_n hx hb dX6_errorPosition_54 rfl (lv_at hl 0 rfl) ?_
      refine lv_if_eq (tgt := 19) hx hb dX6_errorPosition_55 (by decide) (fun c_3 => ?_) (fun q9 => absurd (show (0 : Int32) = 0 from (by decide)) (show ¬ ((0 : Int32) = 0) from q9))
      refine lv_iload_n hx hb dX6_errorPosition_19 rfl (lv_at hl 0 rfl) ?_
      refine lv_if_eq (tgt := 95) hx hb dX6_errorPosition_20 (by decide) (fun c_4 => ?_) (fun q9 => absurd (show (0 : Int32) = 0 from (by decide)) (show ¬ ((0 : Int32) = 0) from q9))
      refine lv_aload_n hx hb dX6_errorPosition_95 rfl (lv_at hl 1 rfl) ?_
      refine x_get (v := .int (mW (rwM y))) X 0 11 in_X6 hP rfl rfl (by decide) wF_X6_138 rfl rfl dX6_errorPosition_96 ?_
      have ef := (show epL (n + 1) y = _ from if_neg c_2).symm.trans ht
      have E : (MW g o (rwM y) : va_W) = MW g o (epL nf (epS r)) := congrArg (MW g o) ef
      exact x_iret X hr hlocks (pw E hP) (dw E hD) hS (congrArg mW ef) dX6_errorPosition_99
    · refine lv_aload_n hx hb dX6_errorPosition_37 rfl (lv_at hl 0 rfl) ?_
      refine x_get (v := .int (nI (mS (rwM y)))) X 0 10 in_X6 hP rfl rfl (by decide) wF_X6_135 rfl rfl dX6_errorPosition_38 ?_
      refine lv_aload_n hx hb dX6_errorPosition_41 rfl (lv_at hl 0 rfl) ?_
      refine x_get (v := .int (nI (mY (rwM y)))) X 0 7 in_X6 hP rfl rfl (by decide) wF_X6_132 rfl rfl dX6_errorPosition_42 ?_
      refine lv_icmp_ge (tgt := 52) hx hb dX6_errorPosition_45 (by decide) (fun (c_5 : (nI (mY (rwM y))) ≤ (nI (mS (rwM y)))) => ?_) (fun (c_5 : ¬ (nI (mY (rwM y))) ≤ (nI (mS (rwM y)))) => ?_)
      · refine lv_iconst (v := 0) hx hb dX6_errorPosition_52 (by decide) ?_
        refine lv_istore_n (lv' := [(1, .int 0), (0, .ref (o 0))]) hx hb dX6_errorPosition_53 rfl hl (by decide) rfl (fun ls hl => ?_)
        refine lv_iload_n hx hb dX6_errorPosition_54 rfl (lv_at hl 0 rfl) ?_
        refine lv_if_eq (tgt := 19) hx hb dX6_errorPosition_55 (by decide) (fun c_6 => ?_) (fun q9 => absurd (show (0 : Int32) = 0 from (by decide)) (show ¬ ((0 : Int32) = 0) from q9))
        refine lv_iload_n hx hb dX6_errorPosition_19 rfl (lv_at hl 0 rfl) ?_
        refine lv_if_eq (tgt := 95) hx hb dX6_errorPosition_20 (by decide) (fun c_7 => ?_) (fun q9 => absurd (show (0 : Int32) = 0 from (by decide)) (show ¬ ((0 : Int32) = 0) from q9))
        refine lv_aload_n hx hb dX6_errorPosition_95 rfl (lv_at hl 1 rfl) ?_
        refine x_get (v := .int (mW (rwM y))) X 0 11 in_X6 hP rfl rfl (by decide) wF_X6_138 rfl rfl dX6_errorPosition_96 ?_
        have ef := (show epL (n + 1) y = _ from (if_pos c_2).trans (if_pos c_5)).symm.trans ht
        have E : (MW g o (rwM y) : va_W) = MW g o (epL nf (epS r)) := congrArg (MW g o) ef
        exact x_iret X hr hlocks (pw E hP) (dw E hD) hS (congrArg mW ef) dX6_errorPosition_99
      · refine lv_iconst (v := 1) hx hb dX6_errorPosition_48 (by decide) ?_
        refine lv_goto (tgt := 53) hx hb dX6_errorPosition_49 (by decide) ?_
        refine lv_istore_n (lv' := [(1, .int 1), (0, .ref (o 0))]) hx hb dX6_errorPosition_53 rfl hl (by decide) rfl (fun ls hl => ?_)
        refine lv_iload_n hx hb dX6_errorPosition_54 rfl (lv_at hl 0 rfl) ?_
        refine lv_if_eq (tgt := 19) hx hb dX6_errorPosition_55 (by decide) (fun q9 => absurd q9 (show ¬ (1 : Int32) = 0 from (by decide))) (fun c_8 => ?_)
        have hq := rw_S y (by omega) c_2
        have hy6 : mY (rwM y) ≤ 60 := by rw [rw_Y]; exact hY
        refine lv_aload_n hx hb dX6_errorPosition_58 rfl (lv_at hl 1 rfl) ?_
        refine lv_aload_n hx hb dX6_errorPosition_59 rfl (lv_at hl 1 rfl) ?_
        refine x_goI (wn := MW g o (rwM y)) (x_rV (As := []) X (c_X6_letter l g o (rwM y) hy6 (show (mS (rwM y)) < 2 ^ 31 from by omega)  _) yf_X6_letter yi_X6_letter wM_X6_141 ⟨Nat.le_of_ble_eq_true rfl, Nat.le_of_ble_eq_true rfl⟩ hP hD (p_all _) 0 rfl rfl hl rfl rfl (Nat.le_of_ble_eq_true rfl) dX6_errorPosition_60 ⟨Nat.zero_le _, Nat.zero_le _⟩) hP hD hS hA (p_all _) (p_back _) (fun H locs hP hD hS => ?_)
        refine lv_bipush (v := 59) hx hb dX6_errorPosition_63 (by decide) ?_
        refine lv_icmp_ne (tgt := 72) hx hb dX6_errorPosition_65 (by decide) (fun (c_9 : ¬ (ltM (mB (rwM y)) (mY (rwM y)) (mS (rwM y))) = 59) => ?_) (fun (c_9 : (ltM (mB (rwM y)) (mY (rwM y)) (mS (rwM y))) = 59) => ?_)
        · refine lv_iconst (v := 0) hx hb dX6_errorPosition_72 (by decide) ?_
          refine x_goV (wn := MW g o ((mZ (rwM y)), (mP (rwM y)), (mK (rwM y)), (mA (rwM y)), (mB (rwM y)), (mO (rwM y)), (mM (rwM y)), (mI (rwM y)), (mY (rwM y)), (mT (rwM y)), ((wtM 0 ((mS (rwM y)), (mW (rwM y)))).1), ((wtM 0 ((mS (rwM y)), (mW (rwM y)))).2))) (x_rV (As := [.int 0]) X (c_X6_wants l g o (rwM y)  0 _) yf_X6_wants yi_X6_wants wM_X6_144 ⟨Nat.le_of_ble_eq_true rfl, Nat.le_of_ble_eq_true rfl⟩ hP hD (p_all _) 0 rfl rfl hl rfl rfl (Nat.le_of_ble_eq_true rfl) dX6_errorPosition_73 ⟨Nat.zero_le _, Nat.zero_le _⟩) hP hD hS hA (p_all _) (p_back _) (fun H locs hP hD hS => ?_)
          refine lv_aload_n hx hb dX6_errorPosition_76 rfl (lv_at hl 1 rfl) ?_
          refine x_get (v := .int ((wtM 0 ((mS (rwM y)), (mW (rwM y)))).2)) X 0 11 in_X6 hP rfl rfl (by decide) wF_X6_138 rfl rfl dX6_errorPosition_77 ?_
          refine lv_sipush (v := (-1000)) hx hb dX6_errorPosition_80 (by decide) ?_
          refine lv_icmp_ne (tgt := 90) hx hb dX6_errorPosition_83 (by decide) (fun c_10 => ?_) (fun q9 => absurd (show ((wtM 0 ((mS (rwM y)), (mW (rwM y)))).2) = (-1000) from q9) (show ¬ ((wtM 0 ((mS (rwM y)), (mW (rwM y)))).2) = (-1000) from (fun q8 => (wt_ok (u := uM (rwM y)) (show mS (rwM y) < 2 ^ 31 from by omega) q8).2.1 rfl)))
          refine lv_iconst (v := 0) hx hb dX6_errorPosition_90 (by decide) ?_
          refine lv_istore_n (lv' := [(1, .int 0), (0, .ref (o 0))]) hx hb dX6_errorPosition_91 rfl hl (by decide) rfl (fun ls hl => ?_)
          refine lv_goto (tgt := 19) hx hb dX6_errorPosition_92 (by decide) ?_
          refine lv_iload_n hx hb dX6_errorPosition_19 rfl (lv_at hl 0 rfl) ?_
          refine lv_if_eq (tgt := 95) hx hb dX6_errorPosition_20 (by decide) (fun c_11 => ?_) (fun q9 => absurd (show (0 : Int32) = 0 from (by decide)) (show ¬ ((0 : Int32) = 0) from q9))
          refine lv_aload_n hx hb dX6_errorPosition_95 rfl (lv_at hl 1 rfl) ?_
          refine x_get (v := .int ((wtM 0 ((mS (rwM y)), (mW (rwM y)))).2)) X 0 11 in_X6 hP rfl rfl (by decide) wF_X6_138 rfl rfl dX6_errorPosition_96 ?_
          have e1 : ep1 y = msu (rwM y) (wtM 0 (uM (rwM y))) := by unfold ep1; rw [if_neg c_9]
          have ef := (show epL (n + 1) y = _ from (if_pos c_2).trans ((if_neg c_5).trans ((if_neg (show ¬ mW (ep1 y) = -1000 from by rw [e1]; exact (fun q8 => (wt_ok (u := uM (rwM y)) (show mS (rwM y) < 2 ^ 31 from by omega) q8).2.1 rfl))).trans e1))).symm.trans ht
          have E : (MW g o ((mZ (rwM y)), (mP (rwM y)), (mK (rwM y)), (mA (rwM y)), (mB (rwM y)), (mO (rwM y)), (mM (rwM y)), (mI (rwM y)), (mY (rwM y)), (mT (rwM y)), ((wtM 0 ((mS (rwM y)), (mW (rwM y)))).1), ((wtM 0 ((mS (rwM y)), (mW (rwM y)))).2)) : va_W) = MW g o (epL nf (epS r)) := congrArg (MW g o) ef
          exact x_iret X hr hlocks (pw E hP) (dw E hD) hS (congrArg mW ef) dX6_errorPosition_99
        · refine lv_iconst (v := 1) hx hb dX6_errorPosition_68 (by decide) ?_
          refine lv_goto (tgt := 73) hx hb dX6_errorPosition_69 (by decide) ?_
          refine x_goV (wn := MW g o ((mZ (rwM y)), (mP (rwM y)), (mK (rwM y)), (mA (rwM y)), (mB (rwM y)), (mO (rwM y)), (mM (rwM y)), (mI (rwM y)), (mY (rwM y)), (mT (rwM y)), ((wtM 1 ((mS (rwM y)), (mW (rwM y)))).1), ((wtM 1 ((mS (rwM y)), (mW (rwM y)))).2))) (x_rV (As := [.int 1]) X (c_X6_wants l g o (rwM y)  1 _) yf_X6_wants yi_X6_wants wM_X6_144 ⟨Nat.le_of_ble_eq_true rfl, Nat.le_of_ble_eq_true rfl⟩ hP hD (p_all _) 0 rfl rfl hl rfl rfl (Nat.le_of_ble_eq_true rfl) dX6_errorPosition_73 ⟨Nat.zero_le _, Nat.zero_le _⟩) hP hD hS hA (p_all _) (p_back _) (fun H locs hP hD hS => ?_)
          refine lv_aload_n hx hb dX6_errorPosition_76 rfl (lv_at hl 1 rfl) ?_
          refine x_get (v := .int ((wtM 1 ((mS (rwM y)), (mW (rwM y)))).2)) X 0 11 in_X6 hP rfl rfl (by decide) wF_X6_138 rfl rfl dX6_errorPosition_77 ?_
          refine lv_sipush (v := (-1000)) hx hb dX6_errorPosition_80 (by decide) ?_
          refine lv_icmp_ne (tgt := 90) hx hb dX6_errorPosition_83 (by decide) (fun (c_12 : ¬ ((wtM 1 ((mS (rwM y)), (mW (rwM y)))).2) = (-1000)) => ?_) (fun (c_12 : ((wtM 1 ((mS (rwM y)), (mW (rwM y)))).2) = (-1000)) => ?_)
          · refine lv_iconst (v := 0) hx hb dX6_errorPosition_90 (by decide) ?_
            refine lv_istore_n (lv' := [(1, .int 0), (0, .ref (o 0))]) hx hb dX6_errorPosition_91 rfl hl (by decide) rfl (fun ls hl => ?_)
            refine lv_goto (tgt := 19) hx hb dX6_errorPosition_92 (by decide) ?_
            refine lv_iload_n hx hb dX6_errorPosition_19 rfl (lv_at hl 0 rfl) ?_
            refine lv_if_eq (tgt := 95) hx hb dX6_errorPosition_20 (by decide) (fun c_13 => ?_) (fun q9 => absurd (show (0 : Int32) = 0 from (by decide)) (show ¬ ((0 : Int32) = 0) from q9))
            refine lv_aload_n hx hb dX6_errorPosition_95 rfl (lv_at hl 1 rfl) ?_
            refine x_get (v := .int ((wtM 1 ((mS (rwM y)), (mW (rwM y)))).2)) X 0 11 in_X6 hP rfl rfl (by decide) wF_X6_138 rfl rfl dX6_errorPosition_96 ?_
            have e1 : ep1 y = msu (rwM y) (wtM 1 (uM (rwM y))) := by unfold ep1; rw [if_pos c_9]
            have ef := (show epL (n + 1) y = _ from (if_pos c_2).trans ((if_neg c_5).trans ((if_neg (show ¬ mW (ep1 y) = -1000 from by rw [e1]; exact c_12)).trans e1))).symm.trans ht
            have E : (MW g o ((mZ (rwM y)), (mP (rwM y)), (mK (rwM y)), (mA (rwM y)), (mB (rwM y)), (mO (rwM y)), (mM (rwM y)), (mI (rwM y)), (mY (rwM y)), (mT (rwM y)), ((wtM 1 ((mS (rwM y)), (mW (rwM y)))).1), ((wtM 1 ((mS (rwM y)), (mW (rwM y)))).2)) : va_W) = MW g o (epL nf (epS r)) := congrArg (MW g o) ef
            exact x_iret X hr hlocks (pw E hP) (dw E hD) hS (congrArg mW ef) dX6_errorPosition_99
          · refine lv_iconst (v := 1) hx hb dX6_errorPosition_86 (by decide) ?_
            refine lv_goto (tgt := 91) hx hb dX6_errorPosition_87 (by decide) ?_
            refine lv_istore_n (lv' := [(1, .int 1), (0, .ref (o 0))]) hx hb dX6_errorPosition_91 rfl hl (by decide) rfl (fun ls hl => ?_)
            refine lv_goto (tgt := 19) hx hb dX6_errorPosition_92 (by decide) ?_
            refine lv_iload_n hx hb dX6_errorPosition_19 rfl (lv_at hl 0 rfl) ?_
            refine lv_if_eq (tgt := 95) hx hb dX6_errorPosition_20 (by decide) (fun q9 => absurd q9 (show ¬ (1 : Int32) = 0 from (by decide))) (fun c_14 => ?_)
            have e1 : ep1 y = msu (rwM y) (wtM 1 (uM (rwM y))) := by unfold ep1; rw [if_pos c_9]
            obtain ⟨-, -, w3⟩ := wt_ok (u := uM (rwM y)) (show mS (rwM y) < 2 ^ 31 from by omega) c_12
            have w3 : (wtM 1 (uM (rwM y))).1 = mS (rwM y) + 1 := w3
            have w4 : mT (rwM y) = mT y + 1 := rw_T y
            have w5 : mY (rwM y) = mY y := rw_Y y
            have w6 : mS (rwM y) < mY (rwM y) := by rcases Nat.lt_or_ge (mS (rwM y)) (mY (rwM y)) with q | q; exact q; exact absurd (nI_le q (by omega)) c_5
            exact ih (msu (rwM y) (wtM 1 (uM (rwM y)))) c_12 (show (wtM 1 (uM (rwM y))).1 ≤ mY (rwM y) from by omega) hy6 (show 3 * mT (rwM y) ≤ (wtM 1 (uM (rwM y))).1 from by omega) (show mY (rwM y) < (wtM 1 (uM (rwM y))).1 + n from by omega) ((show epL (n + 1) y = _ from (if_pos c_2).trans ((if_neg c_5).trans ((if_pos (show mW (ep1 y) = -1000 from by rw [e1]; exact c_12)).trans (congrArg (epL n) e1)))).symm.trans ht) ls _ _ hP hD hS (lv_sub hl [1] rfl)

def fmodC (x y : Int32) : Int32 := if 0 ≤ x ^^^ y then jrem x y else if jrem x y = 0 then jrem x y else jrem x y + y
set_option maxHeartbeats 4000000 in
set_option maxRecDepth 100000 in
theorem c_J9_floorMod_7cf53 (l : Launch) (g : wG) (x y : Int32) (hy : ¬ y = 0) : CtI l g 0 yJ9_floorMod_7cf53 cJ9_floorMod_7cf53 3 (some .int) [.int x, .int y] ([]) (fmodC x y) ([]) := by
  intro sz
  refine x_enterF (Qc := fun A => QI g A (fmodC x y) ([])) (by decide +kernel) (Nat.le_of_ble_eq_true rfl) ?_
  intro p e s m args below meth c X hr hlocks A hA hP hD hS ls hl
  obtain ⟨⟨hx, hb, hml, hown, hts⟩, hK, hN⟩ := id X
  have hl : lv_has ls 3 [(0, .int x), (1, .int y)] := hl
  refine lv_iload_n hx hb dJ9_floorMod_7cf53_0 rfl (lv_at hl 0 rfl) ?_
  refine lv_iload_n hx hb dJ9_floorMod_7cf53_1 rfl (lv_at hl 1 rfl) ?_
  refine lv_irem hx hb dJ9_floorMod_7cf53_2 hy ?_
  refine lv_istore_n (lv' := [(2, .int (jrem x y)), (0, .int x), (1, .int y)]) hx hb dJ9_floorMod_7cf53_3 rfl hl (by decide) rfl (fun ls hl => ?_)
  refine lv_iload_n hx hb dJ9_floorMod_7cf53_4 rfl (lv_at hl 1 rfl) ?_
  refine lv_iload_n hx hb dJ9_floorMod_7cf53_5 rfl (lv_at hl 2 rfl) ?_
  refine lv_ixor hx hb dJ9_floorMod_7cf53_6 ?_
  refine lv_if_ge (tgt := 18) hx hb dJ9_floorMod_7cf53_7 (by decide) (fun (c_1 : 0 ≤ (x ^^^ y)) => ?_) (fun (c_1 : ¬ 0 ≤ (x ^^^ y)) => ?_)
  · refine lv_iload_n hx hb dJ9_floorMod_7cf53_18 rfl (lv_at hl 0 rfl) ?_
    exact x_iret X hr hlocks hP hD hS (by simp only [fmodC, if_pos c_1]) dJ9_floorMod_7cf53_19
  · refine lv_iload_n hx hb dJ9_floorMod_7cf53_10 rfl (lv_at hl 0 rfl) ?_
    refine lv_if_eq (tgt := 18) hx hb dJ9_floorMod_7cf53_11 (by decide) (fun (c_2 : (jrem x y) = 0) => ?_) (fun (c_2 : ¬ (jrem x y) = 0) => ?_)
    · refine lv_iload_n hx hb dJ9_floorMod_7cf53_18 rfl (lv_at hl 0 rfl) ?_
      exact x_iret X hr hlocks hP hD hS (by simp only [fmodC, if_neg c_1, if_pos c_2]) dJ9_floorMod_7cf53_19
    · refine lv_iload_n hx hb dJ9_floorMod_7cf53_14 rfl (lv_at hl 0 rfl) ?_
      refine lv_iload_n hx hb dJ9_floorMod_7cf53_15 rfl (lv_at hl 2 rfl) ?_
      refine lv_iadd hx hb dJ9_floorMod_7cf53_16 ?_
      exact x_iret X hr hlocks hP hD hS (by simp only [fmodC, if_neg c_1, if_neg c_2]) dJ9_floorMod_7cf53_17

def hsL (sf : Nat → Int32) (x : Int32) : Nat → Nat → Int32
  | 0, _ => 0
  | n + 1, k => if sf k = x then 1 else hsL sf x n (k + 1)
theorem hsL_b (sf : Nat → Int32) (x : Int32) (n : Nat) : ∀ k, hsL sf x n k = 0 ∨ hsL sf x n k = 1 := by
  induction n with
  | zero => intro k; exact Or.inl rfl
  | succ n ih =>
    intro k
    by_cases h : sf k = x
    · right; simp only [hsL, if_pos h]
    · simp only [hsL, if_neg h]; exact ih _
set_option maxHeartbeats 4000000 in
set_option maxRecDepth 100000 in
theorem c_X2_hasStart (l : Launch) (g : wG) (ka sa wa : Nat) (cn : Nat) (hc : cn ≤ 6) (sf wf : Nat → Int32) (x : Int32) : CtI l g 0 yX2_hasStart cX2_hasStart 3 (some .boolean) [.ref ka, .int x] (KW g ka sa wa (nI cn) sf wf) (hsL sf x cn 0) (KW g ka sa wa (nI cn) sf wf) := by
  intro sz
  refine x_enter (Qc := fun A => QI g A (hsL sf x cn 0) (KW g ka sa wa (nI cn) sf wf)) (by decide) (Nat.le_of_ble_eq_true rfl) ?_
  intro p e s m args below meth c X hr hlocks A hA hP hD hS ls hl
  obtain ⟨⟨hx, hb, hml, hown, hts⟩, hK, hN⟩ := id X
  have hl : lv_has ls 3 [(0, .ref ka), (1, .int x)] := hl
  refine lv_iconst (v := 0) hx hb dX2_hasStart_0 (by decide) ?_
  refine lv_istore_n (lv' := [(2, .int 0), (0, .ref ka), (1, .int x)]) hx hb dX2_hasStart_1 rfl hl (by decide) rfl (fun ls hl => ?_)
  suffices LP2 : ∀ (n : Nat) (k : Nat), k + n = cn → hsL sf x n k = hsL sf x cn 0 → ∀ (ls : Array Slot) (H : Heap) (locs : List Loc), va_P g.1 vwCl (KW g ka sa wa (nI cn) sf wf) H → va_D A (KW g ka sa wa (nI cn) sf wf) → va_S A s.heap H locs → lv_has ls 3 [(2, .int (nI k)), (0, .ref ka), (1, .int x)] → W p l e (rmD 0) s m args below meth c H locs 0 0 (MQ below (QI g A (hsL sf x cn 0) (KW g ka sa wa (nI cn) sf wf)) args s 0 0 A) (F0 m 2 ls []) from LP2 cn 0 (Nat.zero_add cn) rfl ls _ _ hP hD hS (lv_sub hl [0, 1, 2] rfl)
  intro n
  induction n with
  | zero =>
    intro k hk ht ls H locs hP hD hS hl
    refine lv_iload_n hx hb dX2_hasStart_2 rfl (lv_at hl 0 rfl) ?_
    refine lv_aload_n hx hb dX2_hasStart_3 rfl (lv_at hl 1 rfl) ?_
    refine x_get (v := .int (nI cn)) X 0 2 in_X2 hP rfl rfl (by decide) wF_X2_24 rfl rfl dX2_hasStart_4 ?_
    refine lv_icmp_ge (tgt := 28) hx hb dX2_hasStart_7 (by decide) (fun c_1 => ?_) (fun q9 => absurd (show (nI cn) ≤ (nI k) from (nI_le (by omega) (by omega))) (show ¬ ((nI cn) ≤ (nI k)) from q9))
    refine lv_iconst (v := 0) hx hb dX2_hasStart_28 (by decide) ?_
    exact x_zret X hr hlocks rfl hP hD hS ht dX2_hasStart_29
  | succ n ih =>
    intro k hk ht ls H locs hP hD hS hl
    refine lv_iload_n hx hb dX2_hasStart_2 rfl (lv_at hl 0 rfl) ?_
    refine lv_aload_n hx hb dX2_hasStart_3 rfl (lv_at hl 1 rfl) ?_
    refine x_get (v := .int (nI cn)) X 0 2 in_X2 hP rfl rfl (by decide) wF_X2_24 rfl rfl dX2_hasStart_4 ?_
    refine lv_icmp_ge (tgt := 28) hx hb dX2_hasStart_7 (by decide) (fun q9 => absurd q9 (show ¬ (nI cn) ≤ (nI k) from (nI_ge (by omega) (by omega)))) (fun c_2 => ?_)
    refine lv_aload_n hx hb dX2_hasStart_10 rfl (lv_at hl 1 rfl) ?_
    refine x_get (v := .ref sa) X 0 0 in_X2 hP rfl rfl (by decide) wF_X2_9 rfl rfl dX2_hasStart_11 ?_
    refine lv_iload_n hx hb dX2_hasStart_14 rfl (lv_at hl 0 rfl) ?_
    refine x_iald (v := (sf k)) X 1 k hP rfl rfl (by omega) (Nat.le_of_ble_eq_true rfl) rfl dX2_hasStart_15 ?_
    refine lv_iload_n hx hb dX2_hasStart_16 rfl (lv_at hl 2 rfl) ?_
    refine lv_icmp_ne (tgt := 22) hx hb dX2_hasStart_17 (by decide) (fun (c_3 : ¬ (sf k) = x) => ?_) (fun (c_3 : (sf k) = x) => ?_)
    · refine lv_iinc (v := (nI (k + 1))) (lv' := [(2, .int (nI (k + 1))), (0, .ref ka), (1, .int x)]) hx hb dX2_hasStart_22 hl (k := 0) rfl (nI_1 _) (by decide) rfl (fun ls hl => ?_)
      refine lv_goto (tgt := 2) hx hb dX2_hasStart_25 (by decide) ?_
      exact ih (k + 1) (by omega) (by rw [← ht]; simp only [hsL, if_neg c_3]) ls _ _ hP hD hS (lv_sub hl [0, 1, 2] rfl)
    · refine lv_iconst (v := 1) hx hb dX2_hasStart_20 (by decide) ?_
      exact x_zret X hr hlocks rfl hP hD hS (by rw [← ht]; simp only [hsL, if_pos c_3]) dX2_hasStart_21

def paN (sf : Nat → Int32) (mi : Int32) : Nat → Nat → Nat → Nat
  | 0, _, f => f
  | n + 1, k, f => if mi < sf k then paN sf mi n (k + 1) f else paN sf mi n (k + 1) k
theorem paN_lt (sf : Nat → Int32) (mi : Int32) (cn : Nat) (n : Nat) : ∀ k f, k + n = cn → f < cn → paN sf mi n k f < cn := by
  induction n with
  | zero => intro k f _ h; exact h
  | succ n ih =>
    intro k f hk hf
    by_cases h : mi < sf k
    · simp only [paN, if_pos h]; exact ih _ _ (by omega) hf
    · simp only [paN, if_neg h]; exact ih _ _ (by omega) (by omega)
def pa (cn : Nat) (sf : Nat → Int32) (mi : Int32) : Nat := paN sf mi cn 0 (cn - 1)
theorem pa_lt {cn : Nat} (h1 : 1 ≤ cn) (sf : Nat → Int32) (mi : Int32) : pa cn sf mi < cn := paN_lt sf mi cn cn 0 _ (Nat.zero_add cn) (by omega)
set_option maxHeartbeats 4000000 in
set_option maxRecDepth 100000 in
theorem c_X2_placeAt (l : Launch) (g : wG) (ka sa wa : Nat) (cn : Nat) (hc : cn ≤ 6) (sf wf : Nat → Int32) (h1 : 1 ≤ cn) (mi : Int32) : CtI l g 0 yX2_placeAt cX2_placeAt 4 (some .int) [.ref ka, .int mi] (KW g ka sa wa (nI cn) sf wf) (nI (pa cn sf mi)) (KW g ka sa wa (nI cn) sf wf) := by
  intro sz
  refine x_enter (Qc := fun A => QI g A (nI (pa cn sf mi)) (KW g ka sa wa (nI cn) sf wf)) (by decide) (Nat.le_of_ble_eq_true rfl) ?_
  intro p e s m args below meth c X hr hlocks A hA hP hD hS ls hl
  obtain ⟨⟨hx, hb, hml, hown, hts⟩, hK, hN⟩ := id X
  have hl : lv_has ls 4 [(0, .ref ka), (1, .int mi)] := hl
  refine lv_aload_n hx hb dX2_placeAt_0 rfl (lv_at hl 0 rfl) ?_
  refine x_get (v := .int (nI cn)) X 0 2 in_X2 hP rfl rfl (by decide) wF_X2_24 rfl rfl dX2_placeAt_1 ?_
  refine lv_iconst (v := 1) hx hb dX2_placeAt_4 (by decide) ?_
  refine lv_isub hx hb dX2_placeAt_5 ?_
  refine W.eq (g2 := F0 m 6 ls [.int (nI (cn - 1))]) (by rw [show nI cn - 1 = nI (cn - 1) from pk_sub h1]) ?_
  refine lv_istore_n (lv' := [(2, .int (nI (cn - 1))), (0, .ref ka), (1, .int mi)]) hx hb dX2_placeAt_6 rfl hl (by decide) rfl (fun ls hl => ?_)
  refine lv_iconst (v := 0) hx hb dX2_placeAt_7 (by decide) ?_
  refine lv_istore_n (lv' := [(3, .int 0), (2, .int (nI (cn - 1))), (0, .ref ka), (1, .int mi)]) hx hb dX2_placeAt_8 rfl hl (by decide) rfl (fun ls hl => ?_)
  suffices LP9 : ∀ (n : Nat) (k : Nat) (f : Nat), k + n = cn → paN sf mi n k f = pa cn sf mi → ∀ (ls : Array Slot) (H : Heap) (locs : List Loc), va_P g.1 vwCl (KW g ka sa wa (nI cn) sf wf) H → va_D A (KW g ka sa wa (nI cn) sf wf) → va_S A s.heap H locs → lv_has ls 4 [(3, .int (nI k)), (2, .int (nI f)), (0, .ref ka), (1, .int mi)] → W p l e (rmD 0) s m args below meth c H locs 0 0 (MQ below (QI g A (nI (pa cn sf mi)) (KW g ka sa wa (nI cn) sf wf)) args s 0 0 A) (F0 m 9 ls []) from LP9 cn 0 (cn - 1) (Nat.zero_add cn) rfl ls _ _ hP hD hS (lv_sub hl [0, 1, 2, 3] rfl)
  intro n
  induction n with
  | zero =>
    intro k f hk ht ls H locs hP hD hS hl
    refine lv_iload_n hx hb dX2_placeAt_9 rfl (lv_at hl 0 rfl) ?_
    refine lv_aload_n hx hb dX2_placeAt_10 rfl (lv_at hl 2 rfl) ?_
    refine x_get (v := .int (nI cn)) X 0 2 in_X2 hP rfl rfl (by decide) wF_X2_24 rfl rfl dX2_placeAt_11 ?_
    refine lv_icmp_ge (tgt := 35) hx hb dX2_placeAt_14 (by decide) (fun c_1 => ?_) (fun q9 => absurd (show (nI cn) ≤ (nI k) from (nI_le (by omega) (by omega))) (show ¬ ((nI cn) ≤ (nI k)) from q9))
    refine lv_iload_n hx hb dX2_placeAt_35 rfl (lv_at hl 1 rfl) ?_
    exact x_iret X hr hlocks hP hD hS (congrArg nI ht) dX2_placeAt_36
  | succ n ih =>
    intro k f hk ht ls H locs hP hD hS hl
    refine lv_iload_n hx hb dX2_placeAt_9 rfl (lv_at hl 0 rfl) ?_
    refine lv_aload_n hx hb dX2_placeAt_10 rfl (lv_at hl 2 rfl) ?_
    refine x_get (v := .int (nI cn)) X 0 2 in_X2 hP rfl rfl (by decide) wF_X2_24 rfl rfl dX2_placeAt_11 ?_
    refine lv_icmp_ge (tgt := 35) hx hb dX2_placeAt_14 (by decide) (fun q9 => absurd q9 (show ¬ (nI cn) ≤ (nI k) from (nI_ge (by omega) (by omega)))) (fun c_2 => ?_)
    refine lv_aload_n hx hb dX2_placeAt_17 rfl (lv_at hl 2 rfl) ?_
    refine x_get (v := .ref sa) X 0 0 in_X2 hP rfl rfl (by decide) wF_X2_9 rfl rfl dX2_placeAt_18 ?_
    refine lv_iload_n hx hb dX2_placeAt_21 rfl (lv_at hl 0 rfl) ?_
    refine x_iald (v := (sf k)) X 1 k hP rfl rfl (by omega) (Nat.le_of_ble_eq_true rfl) rfl dX2_placeAt_22 ?_
    refine lv_iload_n hx hb dX2_placeAt_23 rfl (lv_at hl 3 rfl) ?_
    refine lv_icmp_gt (tgt := 29) hx hb dX2_placeAt_24 (by decide) (fun (c_3 : mi < (sf k)) => ?_) (fun (c_3 : ¬ mi < (sf k)) => ?_)
    · refine lv_iinc (v := (nI (k + 1))) (lv' := [(3, .int (nI (k + 1))), (2, .int (nI f)), (0, .ref ka), (1, .int mi)]) hx hb dX2_placeAt_29 hl (k := 0) rfl (nI_1 _) (by decide) rfl (fun ls hl => ?_)
      refine lv_goto (tgt := 9) hx hb dX2_placeAt_32 (by decide) ?_
      exact ih (k + 1) f (by omega) (by rw [← ht]; simp only [paN, if_pos c_3]) ls _ _ hP hD hS (lv_sub hl [0, 1, 2, 3] rfl)
    · refine lv_iload_n hx hb dX2_placeAt_27 rfl (lv_at hl 0 rfl) ?_
      refine lv_istore_n (lv' := [(2, .int (nI k)), (3, .int (nI k)), (0, .ref ka), (1, .int mi)]) hx hb dX2_placeAt_28 rfl hl (by decide) rfl (fun ls hl => ?_)
      refine lv_iinc (v := (nI (k + 1))) (lv' := [(3, .int (nI (k + 1))), (2, .int (nI k)), (0, .ref ka), (1, .int mi)]) hx hb dX2_placeAt_29 hl (k := 1) rfl (nI_1 _) (by decide) rfl (fun ls hl => ?_)
      refine lv_goto (tgt := 9) hx hb dX2_placeAt_32 (by decide) ?_
      exact ih (k + 1) k (by omega) (by rw [← ht]; simp only [paN, if_neg c_3]) ls _ _ hP hD hS (lv_sub hl [0, 1, 2, 3] rfl)

set_option maxHeartbeats 4000000 in
set_option maxRecDepth 100000 in
theorem c_X2_placeAt0 (l : Launch) (g : wG) (ka sa wa : Nat) (sf wf : Nat → Int32) (mi : Int32) : CtI l g 0 yX2_placeAt cX2_placeAt 4 (some .int) [.ref ka, .int mi] (KW g ka sa wa 0 sf wf) (0 - 1) (KW g ka sa wa 0 sf wf) := by
  intro sz
  refine x_enter (Qc := fun A => QI g A (0 - 1) (KW g ka sa wa 0 sf wf)) (by decide) (Nat.le_of_ble_eq_true rfl) ?_
  intro p e s m args below meth c X hr hlocks A hA hP hD hS ls hl
  obtain ⟨⟨hx, hb, hml, hown, hts⟩, hK, hN⟩ := id X
  have hl : lv_has ls 4 [(0, .ref ka), (1, .int mi)] := hl
  refine lv_aload_n hx hb dX2_placeAt_0 rfl (lv_at hl 0 rfl) ?_
  refine x_get (v := .int 0) X 0 2 in_X2 hP rfl rfl (by decide) wF_X2_24 rfl rfl dX2_placeAt_1 ?_
  refine lv_iconst (v := 1) hx hb dX2_placeAt_4 (by decide) ?_
  refine lv_isub hx hb dX2_placeAt_5 ?_
  refine lv_istore_n (lv' := [(2, .int (0 - 1)), (0, .ref ka), (1, .int mi)]) hx hb dX2_placeAt_6 rfl hl (by decide) rfl (fun ls hl => ?_)
  refine lv_iconst (v := 0) hx hb dX2_placeAt_7 (by decide) ?_
  refine lv_istore_n (lv' := [(3, .int 0), (2, .int (0 - 1)), (0, .ref ka), (1, .int mi)]) hx hb dX2_placeAt_8 rfl hl (by decide) rfl (fun ls hl => ?_)
  refine lv_iload_n hx hb dX2_placeAt_9 rfl (lv_at hl 0 rfl) ?_
  refine lv_aload_n hx hb dX2_placeAt_10 rfl (lv_at hl 2 rfl) ?_
  refine x_get (v := .int 0) X 0 2 in_X2 hP rfl rfl (by decide) wF_X2_24 rfl rfl dX2_placeAt_11 ?_
  refine lv_icmp_ge (tgt := 35) hx hb dX2_placeAt_14 (by decide) (fun c_1 => ?_) (fun q9 => absurd (show (0 : Int32) ≤ (0 : Int32) from (by decide)) (show ¬ ((0 : Int32) ≤ (0 : Int32)) from q9))
  refine lv_iload_n hx hb dX2_placeAt_35 rfl (lv_at hl 1 rfl) ?_
  exact x_iret X hr hlocks hP hD hS rfl dX2_placeAt_36

def adL (x w : Int32) : Nat → (Nat → Int32) → (Nat → Int32) → (Nat → Int32) × (Nat → Int32)
  | 0, sf, wf => (upd sf 0 x, upd wf 0 w)
  | k + 1, sf, wf => if sf k ≤ x then (upd sf (k + 1) x, upd wf (k + 1) w) else adL x w k (upd sf (k + 1) (sf k)) (upd wf (k + 1) (wf k))
set_option maxHeartbeats 4000000 in
set_option maxRecDepth 100000 in
theorem c_X2_add (l : Launch) (g : wG) (ka sa wa : Nat) (cn : Nat) (hc : cn < 6) (sf wf : Nat → Int32) (x w : Int32) : CtV l g 0 yX2_add cX2_add 4 none [.ref ka, .int x, .int w] (KW g ka sa wa (nI cn) sf wf) (KW g ka sa wa (nI (cn + 1)) (adL x w cn sf wf).1 (adL x w cn sf wf).2) := by
  intro sz
  refine x_enter (Qc := fun A => QV g A (KW g ka sa wa (nI (cn + 1)) (adL x w cn sf wf).1 (adL x w cn sf wf).2)) (by decide) (Nat.le_of_ble_eq_true rfl) ?_
  intro p e s m args below meth c X hr hlocks A hA hP hD hS ls hl
  obtain ⟨⟨hx, hb, hml, hown, hts⟩, hK, hN⟩ := id X
  have hl : lv_has ls 4 [(0, .ref ka), (1, .int x), (2, .int w)] := hl
  refine lv_aload_n hx hb dX2_add_0 rfl (lv_at hl 0 rfl) ?_
  refine x_get (v := .int (nI cn)) X 0 2 in_X2 hP rfl rfl (by decide) wF_X2_24 rfl rfl dX2_add_1 ?_
  refine lv_bipush (v := 6) hx hb dX2_add_4 (by decide) ?_
  refine lv_icmp_lt (tgt := 10) hx hb dX2_add_6 (by decide) (fun c_1 => ?_) (fun q9 => absurd (show (nI cn) < 6 from (nI_lt (b := 6) hc (by decide))) (show ¬ ((nI cn) < 6) from q9))
  refine lv_aload_n hx hb dX2_add_10 rfl (lv_at hl 0 rfl) ?_
  refine x_get (v := .int (nI cn)) X 0 2 in_X2 hP rfl rfl (by decide) wF_X2_24 rfl rfl dX2_add_11 ?_
  refine lv_istore_n (lv' := [(3, .int (nI cn)), (0, .ref ka), (1, .int x), (2, .int w)]) hx hb dX2_add_14 rfl hl (by decide) rfl (fun ls hl => ?_)
  suffices LP15 : ∀ (n : Nat) (sq : Nat → Int32) (wq : Nat → Int32), n ≤ cn → adL x w n sq wq = adL x w cn sf wf → ∀ (ls : Array Slot) (H : Heap) (locs : List Loc), va_P g.1 vwCl (KW g ka sa wa (nI cn) sq wq) H → va_D A (KW g ka sa wa (nI cn) sq wq) → va_S A s.heap H locs → lv_has ls 4 [(3, .int (nI n)), (0, .ref ka), (1, .int x), (2, .int w)] → W p l e (rmD 0) s m args below meth c H locs 0 0 (MQ below (QV g A (KW g ka sa wa (nI (cn + 1)) (adL x w cn sf wf).1 (adL x w cn sf wf).2)) args s 0 0 A) (F0 m 15 ls []) from LP15 cn sf wf (Nat.le_refl cn) rfl ls _ _ hP hD hS (lv_sub hl [0, 1, 2, 3] rfl)
  intro n
  induction n with
  | zero =>
    intro sq wq hk ht ls H locs hP hD hS hl
    refine lv_iload_n hx hb dX2_add_15 rfl (lv_at hl 0 rfl) ?_
    refine lv_if_le (tgt := 65) hx hb dX2_add_16 (by decide) (fun c_2 => ?_) (fun q9 => absurd (show (nI 0) ≤ 0 from (by decide)) (show ¬ ((nI 0) ≤ 0) from q9))
    refine lv_aload_n hx hb dX2_add_65 rfl (lv_at hl 1 rfl) ?_
    refine x_get (v := .ref sa) X 0 0 in_X2 hP rfl rfl (by decide) wF_X2_9 rfl rfl dX2_add_66 ?_
    refine lv_iload_n hx hb dX2_add_69 rfl (lv_at hl 0 rfl) ?_
    refine lv_iload_n hx hb dX2_add_70 rfl (lv_at hl 2 rfl) ?_
    refine x_iast (ws2 := KW g ka sa wa (nI cn) (upd sq 0 x) wq) X 1 0 hP hD hS rfl rfl (by omega) (Nat.le_of_ble_eq_true rfl) rfl dX2_add_71 (fun H locs hP hD hS => ?_)
    refine lv_aload_n hx hb dX2_add_72 rfl (lv_at hl 1 rfl) ?_
    refine x_get (v := .ref wa) X 0 1 in_X2 hP rfl rfl (by decide) wF_X2_15 rfl rfl dX2_add_73 ?_
    refine lv_iload_n hx hb dX2_add_76 rfl (lv_at hl 0 rfl) ?_
    refine lv_iload_n hx hb dX2_add_77 rfl (lv_at hl 3 rfl) ?_
    refine x_iast (ws2 := KW g ka sa wa (nI cn) (upd sq 0 x) (upd wq 0 w)) X 2 0 hP hD hS rfl rfl (by omega) (Nat.le_of_ble_eq_true rfl) rfl dX2_add_78 (fun H locs hP hD hS => ?_)
    refine lv_aload_n hx hb dX2_add_79 rfl (lv_at hl 1 rfl) ?_
    refine lv_dup hx hb dX2_add_80 rfl ?_
    refine x_get (v := .int (nI cn)) X 0 2 in_X2 hP rfl rfl (by decide) wF_X2_24 rfl rfl dX2_add_81 ?_
    refine lv_iconst (v := 1) hx hb dX2_add_84 (by decide) ?_
    refine lv_iadd hx hb dX2_add_85 ?_
    refine x_put (v := .int ((nI cn) + 1)) (ty0 := tyX2) (ws2 := KW g ka sa wa ((nI cn) + 1) (upd sq 0 x) (upd wq 0 w)) X 0 2 in_X2 tyX2_ok nmX2 hP hD hS rfl rfl (by decide) wF_X2_24 rfl rfl rfl rfl (Nat.le_of_ble_eq_true rfl) rfl dX2_add_86 (fun H locs hP hD hS => ?_)
    have E : (KW g ka sa wa ((nI cn) + 1) (upd sq 0 x) (upd wq 0 w) : va_W) = KW g ka sa wa (nI (cn + 1)) (adL x w cn sf wf).1 (adL x w cn sf wf).2 := by rw [← ht]; simp only [adL]; rw [show nI cn + 1 = nI (cn + 1) from nI_1 cn]
    exact x_vret X hr hlocks (pw E hP) (dw E hD) hS dX2_add_89
  | succ n ih =>
    intro sq wq hk ht ls H locs hP hD hS hl
    refine lv_iload_n hx hb dX2_add_15 rfl (lv_at hl 0 rfl) ?_
    refine lv_if_le (tgt := 65) hx hb dX2_add_16 (by decide) (fun q9 => absurd q9 (show ¬ (nI (n + 1)) ≤ 0 from (nI_nle (by omega) (by omega)))) (fun c_3 => ?_)
    refine lv_aload_n hx hb dX2_add_19 rfl (lv_at hl 1 rfl) ?_
    refine x_get (v := .ref sa) X 0 0 in_X2 hP rfl rfl (by decide) wF_X2_9 rfl rfl dX2_add_20 ?_
    refine lv_iload_n hx hb dX2_add_23 rfl (lv_at hl 0 rfl) ?_
    refine lv_iconst (v := 1) hx hb dX2_add_24 (by decide) ?_
    refine lv_isub hx hb dX2_add_25 ?_
    refine x_iald (v := (sq n)) X 1 n hP rfl (nI_pred n) (by omega) (Nat.le_of_ble_eq_true rfl) rfl dX2_add_26 ?_
    refine lv_iload_n hx hb dX2_add_27 rfl (lv_at hl 2 rfl) ?_
    refine lv_icmp_le (tgt := 65) hx hb dX2_add_28 (by decide) (fun (c_4 : (sq n) ≤ x) => ?_) (fun (c_4 : ¬ (sq n) ≤ x) => ?_)
    · refine lv_aload_n hx hb dX2_add_65 rfl (lv_at hl 1 rfl) ?_
      refine x_get (v := .ref sa) X 0 0 in_X2 hP rfl rfl (by decide) wF_X2_9 rfl rfl dX2_add_66 ?_
      refine lv_iload_n hx hb dX2_add_69 rfl (lv_at hl 0 rfl) ?_
      refine lv_iload_n hx hb dX2_add_70 rfl (lv_at hl 2 rfl) ?_
      refine x_iast (ws2 := KW g ka sa wa (nI cn) (upd sq (n + 1) x) wq) X 1 (n + 1) hP hD hS rfl rfl (by omega) (Nat.le_of_ble_eq_true rfl) rfl dX2_add_71 (fun H locs hP hD hS => ?_)
      refine lv_aload_n hx hb dX2_add_72 rfl (lv_at hl 1 rfl) ?_
      refine x_get (v := .ref wa) X 0 1 in_X2 hP rfl rfl (by decide) wF_X2_15 rfl rfl dX2_add_73 ?_
      refine lv_iload_n hx hb dX2_add_76 rfl (lv_at hl 0 rfl) ?_
      refine lv_iload_n hx hb dX2_add_77 rfl (lv_at hl 3 rfl) ?_
      refine x_iast (ws2 := KW g ka sa wa (nI cn) (upd sq (n + 1) x) (upd wq (n + 1) w)) X 2 (n + 1) hP hD hS rfl rfl (by omega) (Nat.le_of_ble_eq_true rfl) rfl dX2_add_78 (fun H locs hP hD hS => ?_)
      refine lv_aload_n hx hb dX2_add_79 rfl (lv_at hl 1 rfl) ?_
      refine lv_dup hx hb dX2_add_80 rfl ?_
      refine x_get (v := .int (nI cn)) X 0 2 in_X2 hP rfl rfl (by decide) wF_X2_24 rfl rfl dX2_add_81 ?_
      refine lv_iconst (v := 1) hx hb dX2_add_84 (by decide) ?_
      refine lv_iadd hx hb dX2_add_85 ?_
      refine x_put (v := .int ((nI cn) + 1)) (ty0 := tyX2) (ws2 := KW g ka sa wa ((nI cn) + 1) (upd sq (n + 1) x) (upd wq (n + 1) w)) X 0 2 in_X2 tyX2_ok nmX2 hP hD hS rfl rfl (by decide) wF_X2_24 rfl rfl rfl rfl (Nat.le_of_ble_eq_true rfl) rfl dX2_add_86 (fun H locs hP hD hS => ?_)
      have E : (KW g ka sa wa ((nI cn) + 1) (upd sq (n + 1) x) (upd wq (n + 1) w) : va_W) = KW g ka sa wa (nI (cn + 1)) (adL x w cn sf wf).1 (adL x w cn sf wf).2 := by rw [← ht]; simp only [adL, if_pos c_4]; rw [show nI cn + 1 = nI (cn + 1) from nI_1 cn]
      exact x_vret X hr hlocks (pw E hP) (dw E hD) hS dX2_add_89
    · refine lv_aload_n hx hb dX2_add_31 rfl (lv_at hl 1 rfl) ?_
      refine x_get (v := .ref sa) X 0 0 in_X2 hP rfl rfl (by decide) wF_X2_9 rfl rfl dX2_add_32 ?_
      refine lv_iload_n hx hb dX2_add_35 rfl (lv_at hl 0 rfl) ?_
      refine lv_aload_n hx hb dX2_add_36 rfl (lv_at hl 1 rfl) ?_
      refine x_get (v := .ref sa) X 0 0 in_X2 hP rfl rfl (by decide) wF_X2_9 rfl rfl dX2_add_37 ?_
      refine lv_iload_n hx hb dX2_add_40 rfl (lv_at hl 0 rfl) ?_
      refine lv_iconst (v := 1) hx hb dX2_add_41 (by decide) ?_
      refine lv_isub hx hb dX2_add_42 ?_
      refine x_iald (v := (sq n)) X 1 n hP rfl (nI_pred n) (by omega) (Nat.le_of_ble_eq_true rfl) rfl dX2_add_43 ?_
      refine x_iast (ws2 := KW g ka sa wa (nI cn) (upd sq (n + 1) (sq n)) wq) X 1 (n + 1) hP hD hS rfl rfl (by omega) (Nat.le_of_ble_eq_true rfl) rfl dX2_add_44 (fun H locs hP hD hS => ?_)
      refine lv_aload_n hx hb dX2_add_45 rfl (lv_at hl 1 rfl) ?_
      refine x_get (v := .ref wa) X 0 1 in_X2 hP rfl rfl (by decide) wF_X2_15 rfl rfl dX2_add_46 ?_
      refine lv_iload_n hx hb dX2_add_49 rfl (lv_at hl 0 rfl) ?_
      refine lv_aload_n hx hb dX2_add_50 rfl (lv_at hl 1 rfl) ?_
      refine x_get (v := .ref wa) X 0 1 in_X2 hP rfl rfl (by decide) wF_X2_15 rfl rfl dX2_add_51 ?_
      refine lv_iload_n hx hb dX2_add_54 rfl (lv_at hl 0 rfl) ?_
      refine lv_iconst (v := 1) hx hb dX2_add_55 (by decide) ?_
      refine lv_isub hx hb dX2_add_56 ?_
      refine x_iald (v := (wq n)) X 2 n hP rfl (nI_pred n) (by omega) (Nat.le_of_ble_eq_true rfl) rfl dX2_add_57 ?_
      refine x_iast (ws2 := KW g ka sa wa (nI cn) (upd sq (n + 1) (sq n)) (upd wq (n + 1) (wq n))) X 2 (n + 1) hP hD hS rfl rfl (by omega) (Nat.le_of_ble_eq_true rfl) rfl dX2_add_58 (fun H locs hP hD hS => ?_)
      refine lv_iinc (v := (nI n)) (lv' := [(3, .int (nI n)), (0, .ref ka), (1, .int x), (2, .int w)]) hx hb dX2_add_59 hl (k := 0) rfl (pk_m1 _) (by decide) rfl (fun ls hl => ?_)
      refine lv_goto (tgt := 15) hx hb dX2_add_62 (by decide) ?_
      exact ih (upd sq (n + 1) (sq n)) (upd wq (n + 1) (wq n)) (by omega) (by rw [← ht]; simp only [adL, if_neg c_4]) ls _ _ hP hD hS (lv_sub hl [0, 1, 2, 3] rfl)

def rmL (x : Int32) : Nat → Nat → Nat → Int32 → (Nat → Int32) → (Nat → Int32) → Int32 × Nat × (Nat → Int32) × (Nat → Int32)
  | 0, _, j, v, sf, wf => (v, j, sf, wf)
  | n + 1, k, j, v, sf, wf => if sf k = x then rmL x n (k + 1) j (wf k) sf wf else rmL x n (k + 1) (j + 1) v (upd sf j (sf k)) (upd wf j (wf k))
set_option maxHeartbeats 4000000 in
set_option maxRecDepth 100000 in
theorem c_X2_remove (l : Launch) (g : wG) (ka sa wa : Nat) (cn : Nat) (hc : cn ≤ 6) (sf wf : Nat → Int32) (x : Int32) : CtI l g 0 yX2_remove cX2_remove 5 (some .int) [.ref ka, .int x] (KW g ka sa wa (nI cn) sf wf) ((rmL x cn 0 0 0 sf wf).1) (KW g ka sa wa (nI (rmL x cn 0 0 0 sf wf).2.1) (rmL x cn 0 0 0 sf wf).2.2.1 (rmL x cn 0 0 0 sf wf).2.2.2) := by
  intro sz
  refine x_enter (Qc := fun A => QI g A ((rmL x cn 0 0 0 sf wf).1) (KW g ka sa wa (nI (rmL x cn 0 0 0 sf wf).2.1) (rmL x cn 0 0 0 sf wf).2.2.1 (rmL x cn 0 0 0 sf wf).2.2.2)) (by decide) (Nat.le_of_ble_eq_true rfl) ?_
  intro p e s m args below meth c X hr hlocks A hA hP hD hS ls hl
  obtain ⟨⟨hx, hb, hml, hown, hts⟩, hK, hN⟩ := id X
  have hl : lv_has ls 5 [(0, .ref ka), (1, .int x)] := hl
  refine lv_iconst (v := 0) hx hb dX2_remove_0 (by decide) ?_
  refine lv_istore_n (lv' := [(2, .int 0), (0, .ref ka), (1, .int x)]) hx hb dX2_remove_1 rfl hl (by decide) rfl (fun ls hl => ?_)
  refine lv_iconst (v := 0) hx hb dX2_remove_2 (by decide) ?_
  refine lv_istore_n (lv' := [(3, .int 0), (2, .int 0), (0, .ref ka), (1, .int x)]) hx hb dX2_remove_3 rfl hl (by decide) rfl (fun ls hl => ?_)
  refine lv_iconst (v := 0) hx hb dX2_remove_4 (by decide) ?_
  refine lv_istore (lv' := [(4, .int 0), (3, .int 0), (2, .int 0), (0, .ref ka), (1, .int x)]) hx hb dX2_remove_5 hl (by decide) rfl (fun ls hl => ?_)
  suffices LP7 : ∀ (n : Nat) (k : Nat) (j : Nat) (v : Int32) (sq : Nat → Int32) (wq : Nat → Int32), k + n = cn → j ≤ k → rmL x n k j v sq wq = (rmL x cn 0 0 0 sf wf) → ∀ (ls : Array Slot) (H : Heap) (locs : List Loc), va_P g.1 vwCl (KW g ka sa wa (nI cn) sq wq) H → va_D A (KW g ka sa wa (nI cn) sq wq) → va_S A s.heap H locs → lv_has ls 5 [(4, .int (nI k)), (3, .int (nI j)), (2, .int v), (0, .ref ka), (1, .int x)] → W p l e (rmD 0) s m args below meth c H locs 0 0 (MQ below (QI g A ((rmL x cn 0 0 0 sf wf).1) (KW g ka sa wa (nI (rmL x cn 0 0 0 sf wf).2.1) (rmL x cn 0 0 0 sf wf).2.2.1 (rmL x cn 0 0 0 sf wf).2.2.2)) args s 0 0 A) (F0 m 7 ls []) from LP7 cn 0 0 0 sf wf (Nat.zero_add cn) (Nat.le_refl 0) rfl ls _ _ hP hD hS (lv_sub hl [0, 1, 2, 3, 4] rfl)
  intro n
  induction n with
  | zero =>
    intro k j v sq wq hk hj ht ls H locs hP hD hS hl
    refine lv_iload hx hb dX2_remove_7 (lv_at hl 0 rfl) ?_
    refine lv_aload_n hx hb dX2_remove_9 rfl (lv_at hl 3 rfl) ?_
    refine x_get (v := .int (nI cn)) X 0 2 in_X2 hP rfl rfl (by decide) wF_X2_24 rfl rfl dX2_remove_10 ?_
    refine lv_icmp_ge (tgt := 73) hx hb dX2_remove_13 (by decide) (fun c_1 => ?_) (fun q9 => absurd (show (nI cn) ≤ (nI k) from (nI_le (by omega) (by omega))) (show ¬ ((nI cn) ≤ (nI k)) from q9))
    refine lv_aload_n hx hb dX2_remove_73 rfl (lv_at hl 3 rfl) ?_
    refine lv_iload_n hx hb dX2_remove_74 rfl (lv_at hl 1 rfl) ?_
    refine x_put (v := .int (nI j)) (ty0 := tyX2) (ws2 := KW g ka sa wa (nI j) sq wq) X 0 2 in_X2 tyX2_ok nmX2 hP hD hS rfl rfl (by decide) wF_X2_24 rfl rfl rfl rfl (Nat.le_of_ble_eq_true rfl) rfl dX2_remove_75 (fun H locs hP hD hS => ?_)
    refine lv_iload_n hx hb dX2_remove_78 rfl (lv_at hl 2 rfl) ?_
    have E : (KW g ka sa wa (nI j) sq wq : va_W) = KW g ka sa wa (nI (rmL x cn 0 0 0 sf wf).2.1) (rmL x cn 0 0 0 sf wf).2.2.1 (rmL x cn 0 0 0 sf wf).2.2.2 := by rw [← ht]; rfl
    exact x_iret X hr hlocks (pw E hP) (dw E hD) hS (by rw [← ht]; rfl) dX2_remove_79
  | succ n ih =>
    intro k j v sq wq hk hj ht ls H locs hP hD hS hl
    refine lv_iload hx hb dX2_remove_7 (lv_at hl 0 rfl) ?_
    refine lv_aload_n hx hb dX2_remove_9 rfl (lv_at hl 3 rfl) ?_
    refine x_get (v := .int (nI cn)) X 0 2 in_X2 hP rfl rfl (by decide) wF_X2_24 rfl rfl dX2_remove_10 ?_
    refine lv_icmp_ge (tgt := 73) hx hb dX2_remove_13 (by decide) (fun q9 => absurd q9 (show ¬ (nI cn) ≤ (nI k) from (nI_ge (by omega) (by omega)))) (fun c_2 => ?_)
    refine lv_aload_n hx hb dX2_remove_16 rfl (lv_at hl 3 rfl) ?_
    refine x_get (v := .ref sa) X 0 0 in_X2 hP rfl rfl (by decide) wF_X2_9 rfl rfl dX2_remove_17 ?_
    refine lv_iload hx hb dX2_remove_20 (lv_at hl 0 rfl) ?_
    refine x_iald (v := (sq k)) X 1 k hP rfl rfl (by omega) (Nat.le_of_ble_eq_true rfl) rfl dX2_remove_22 ?_
    refine lv_iload_n hx hb dX2_remove_23 rfl (lv_at hl 4 rfl) ?_
    refine lv_icmp_ne (tgt := 38) hx hb dX2_remove_24 (by decide) (fun (c_3 : ¬ (sq k) = x) => ?_) (fun (c_3 : (sq k) = x) => ?_)
    · refine lv_aload_n hx hb dX2_remove_38 rfl (lv_at hl 3 rfl) ?_
      refine x_get (v := .ref sa) X 0 0 in_X2 hP rfl rfl (by decide) wF_X2_9 rfl rfl dX2_remove_39 ?_
      refine lv_iload_n hx hb dX2_remove_42 rfl (lv_at hl 1 rfl) ?_
      refine lv_aload_n hx hb dX2_remove_43 rfl (lv_at hl 3 rfl) ?_
      refine x_get (v := .ref sa) X 0 0 in_X2 hP rfl rfl (by decide) wF_X2_9 rfl rfl dX2_remove_44 ?_
      refine lv_iload hx hb dX2_remove_47 (lv_at hl 0 rfl) ?_
      refine x_iald (v := (sq k)) X 1 k hP rfl rfl (by omega) (Nat.le_of_ble_eq_true rfl) rfl dX2_remove_49 ?_
      refine x_iast (ws2 := KW g ka sa wa (nI cn) (upd sq j (sq k)) wq) X 1 j hP hD hS rfl rfl (by omega) (Nat.le_of_ble_eq_true rfl) rfl dX2_remove_50 (fun H locs hP hD hS => ?_)
      refine lv_aload_n hx hb dX2_remove_51 rfl (lv_at hl 3 rfl) ?_
      refine x_get (v := .ref wa) X 0 1 in_X2 hP rfl rfl (by decide) wF_X2_15 rfl rfl dX2_remove_52 ?_
      refine lv_iload_n hx hb dX2_remove_55 rfl (lv_at hl 1 rfl) ?_
      refine lv_aload_n hx hb dX2_remove_56 rfl (lv_at hl 3 rfl) ?_
      refine x_get (v := .ref wa) X 0 1 in_X2 hP rfl rfl (by decide) wF_X2_15 rfl rfl dX2_remove_57 ?_
      refine lv_iload hx hb dX2_remove_60 (lv_at hl 0 rfl) ?_
      refine x_iald (v := (wq k)) X 2 k hP rfl rfl (by omega) (Nat.le_of_ble_eq_true rfl) rfl dX2_remove_62 ?_
      refine x_iast (ws2 := KW g ka sa wa (nI cn) (upd sq j (sq k)) (upd wq j (wq k))) X 2 j hP hD hS rfl rfl (by omega) (Nat.le_of_ble_eq_true rfl) rfl dX2_remove_63 (fun H locs hP hD hS => ?_)
      refine lv_iinc (v := (nI (j + 1))) (lv' := [(3, .int (nI (j + 1))), (4, .int (nI k)), (2, .int v), (0, .ref ka), (1, .int x)]) hx hb dX2_remove_64 hl (k := 1) rfl (nI_1 _) (by decide) rfl (fun ls hl => ?_)
      refine lv_iinc (v := (nI (k + 1))) (lv' := [(4, .int (nI (k + 1))), (3, .int (nI (j + 1))), (2, .int v), (0, .ref ka), (1, .int x)]) hx hb dX2_remove_67 hl (k := 1) rfl (nI_1 _) (by decide) rfl (fun ls hl => ?_)
      refine lv_goto (tgt := 7) hx hb dX2_remove_70 (by decide) ?_
      exact ih (k + 1) (j + 1) v (upd sq j (sq k)) (upd wq j (wq k)) (by omega) (by omega) (by rw [← ht]; simp only [rmL, if_neg c_3]) ls _ _ hP hD hS (lv_sub hl [0, 1, 2, 3, 4] rfl)
    · refine lv_aload_n hx hb dX2_remove_27 rfl (lv_at hl 3 rfl) ?_
      refine x_get (v := .ref wa) X 0 1 in_X2 hP rfl rfl (by decide) wF_X2_15 rfl rfl dX2_remove_28 ?_
      refine lv_iload hx hb dX2_remove_31 (lv_at hl 0 rfl) ?_
      refine x_iald (v := (wq k)) X 2 k hP rfl rfl (by omega) (Nat.le_of_ble_eq_true rfl) rfl dX2_remove_33 ?_
      refine lv_istore_n (lv' := [(2, .int (wq k)), (4, .int (nI k)), (3, .int (nI j)), (0, .ref ka), (1, .int x)]) hx hb dX2_remove_34 rfl hl (by decide) rfl (fun ls hl => ?_)
      refine lv_goto (tgt := 67) hx hb dX2_remove_35 (by decide) ?_
      refine lv_iinc (v := (nI (k + 1))) (lv' := [(4, .int (nI (k + 1))), (2, .int (wq k)), (3, .int (nI j)), (0, .ref ka), (1, .int x)]) hx hb dX2_remove_67 hl (k := 1) rfl (nI_1 _) (by decide) rfl (fun ls hl => ?_)
      refine lv_goto (tgt := 7) hx hb dX2_remove_70 (by decide) ?_
      exact ih (k + 1) j (wq k) sq wq (by omega) (by omega) (by rw [← ht]; simp only [rmL, if_pos c_3]) ls _ _ hP hD hS (lv_sub hl [0, 2, 1, 3, 4] rfl)

def eoa (x w : Int32) (cn : Nat) (sf : Nat → Int32) : Int32 := if isw x 0 1439 = 0 then -1002 else if isw w (-30) 30 = 0 then -1002 else if hsL sf x cn 0 = 0 then (if nI cn < 6 then 0 else -1004) else -1003
set_option maxHeartbeats 4000000 in
set_option maxRecDepth 100000 in
theorem c_X2_errorOfAdding (l : Launch) (g : wG) (ka sa wa : Nat) (cn : Nat) (hc : cn ≤ 6) (sf wf : Nat → Int32) (x w : Int32) : CtI l g 1 yX2_errorOfAdding cX2_errorOfAdding 3 (some .int) [.ref ka, .int x, .int w] (KW g ka sa wa (nI cn) sf wf) (eoa x w cn sf) (KW g ka sa wa (nI cn) sf wf) := by
  intro sz
  refine x_enter (Qc := fun A => QI g A (eoa x w cn sf) (KW g ka sa wa (nI cn) sf wf)) (by decide) (Nat.le_of_ble_eq_true rfl) ?_
  intro p e s m args below meth c X hr hlocks A hA hP hD hS ls hl
  obtain ⟨⟨hx, hb, hml, hown, hts⟩, hK, hN⟩ := id X
  have hl : lv_has ls 3 [(0, .ref ka), (1, .int x), (2, .int w)] := hl
  refine lv_iload_n hx hb dX2_errorOfAdding_0 rfl (lv_at hl 1 rfl) ?_
  refine lv_iconst (v := 0) hx hb dX2_errorOfAdding_1 (by decide) ?_
  refine lv_sipush (v := 1439) hx hb dX2_errorOfAdding_2 (by decide) ?_
  refine x_goI (wn := KW g ka sa wa (nI cn) sf wf) (x_rN (As := [.int x, .int 0, .int 1439]) X (c_X5_isWithin l g x 0 1439 _) yf_X5_isWithin ys_X5_isWithin hN.2.2.2.1 ⟨Nat.le_of_ble_eq_true rfl, Nat.le_of_ble_eq_true rfl⟩ hP hD (p_none _) hl rfl rfl (Nat.le_of_ble_eq_true rfl) dX2_errorOfAdding_5 ⟨Nat.zero_le _, Nat.zero_le _⟩) hP hD hS hA (p_none _) (p_noneB _) (fun H locs hP hD hS => ?_)
  refine lv_if_eq (tgt := 22) hx hb dX2_errorOfAdding_8 (by decide) (fun (c_1 : (isw x 0 1439) = 0) => ?_) (fun (c_1 : ¬ (isw x 0 1439) = 0) => ?_)
  · refine lv_sipush (v := (-1002)) hx hb dX2_errorOfAdding_22 (by decide) ?_
    exact x_iret X hr hlocks hP hD hS (by simp only [eoa, if_pos c_1]) dX2_errorOfAdding_25
  · refine lv_iload_n hx hb dX2_errorOfAdding_11 rfl (lv_at hl 2 rfl) ?_
    refine lv_bipush (v := (-30)) hx hb dX2_errorOfAdding_12 (by decide) ?_
    refine lv_bipush (v := 30) hx hb dX2_errorOfAdding_14 (by decide) ?_
    refine x_goI (wn := KW g ka sa wa (nI cn) sf wf) (x_rN (As := [.int w, .int (-30), .int 30]) X (c_X5_isWithin l g w (-30) 30 _) yf_X5_isWithin ys_X5_isWithin hN.2.2.2.1 ⟨Nat.le_of_ble_eq_true rfl, Nat.le_of_ble_eq_true rfl⟩ hP hD (p_none _) hl rfl rfl (Nat.le_of_ble_eq_true rfl) dX2_errorOfAdding_16 ⟨Nat.zero_le _, Nat.zero_le _⟩) hP hD hS hA (p_none _) (p_noneB _) (fun H locs hP hD hS => ?_)
    refine lv_if_ne (tgt := 26) hx hb dX2_errorOfAdding_19 (by decide) (fun (c_2 : ¬ (isw w (-30) 30) = 0) => ?_) (fun (c_2 : (isw w (-30) 30) = 0) => ?_)
    · refine lv_aload_n hx hb dX2_errorOfAdding_26 rfl (lv_at hl 0 rfl) ?_
      refine lv_iload_n hx hb dX2_errorOfAdding_27 rfl (lv_at hl 1 rfl) ?_
      refine x_goI (wn := KW g ka sa wa (nI cn) sf wf) (x_rV (As := [.int x]) X (c_X2_hasStart l g ka sa wa cn hc sf wf x _) yf_X2_hasStart yi_X2_hasStart wM_X2_32 ⟨Nat.le_of_ble_eq_true rfl, Nat.le_of_ble_eq_true rfl⟩ hP hD (p_all _) 0 rfl rfl hl rfl rfl (Nat.le_of_ble_eq_true rfl) dX2_errorOfAdding_28 ⟨Nat.zero_le _, Nat.zero_le _⟩) hP hD hS hA (p_all _) (p_back _) (fun H locs hP hD hS => ?_)
      refine lv_if_eq (tgt := 38) hx hb dX2_errorOfAdding_31 (by decide) (fun (c_3 : (hsL sf x cn 0) = 0) => ?_) (fun (c_3 : ¬ (hsL sf x cn 0) = 0) => ?_)
      · refine lv_aload_n hx hb dX2_errorOfAdding_38 rfl (lv_at hl 0 rfl) ?_
        refine x_get (v := .int (nI cn)) X 0 2 in_X2 hP rfl rfl (by decide) wF_X2_24 rfl rfl dX2_errorOfAdding_39 ?_
        refine lv_bipush (v := 6) hx hb dX2_errorOfAdding_42 (by decide) ?_
        refine lv_icmp_lt (tgt := 53) hx hb dX2_errorOfAdding_44 (by decide) (fun (c_4 : (nI cn) < 6) => ?_) (fun (c_4 : ¬ (nI cn) < 6) => ?_)
        · refine lv_iconst (v := 0) hx hb dX2_errorOfAdding_53 (by decide) ?_
          exact x_iret X hr hlocks hP hD hS (by simp only [eoa, if_neg c_1, if_neg c_2, if_pos c_3, if_pos c_4]) dX2_errorOfAdding_54
        · refine lv_sipush (v := (-1004)) hx hb dX2_errorOfAdding_47 (by decide) ?_
          refine lv_goto (tgt := 54) hx hb dX2_errorOfAdding_50 (by decide) ?_
          exact x_iret X hr hlocks hP hD hS (by simp only [eoa, if_neg c_1, if_neg c_2, if_pos c_3, if_neg c_4]) dX2_errorOfAdding_54
      · refine lv_sipush (v := (-1003)) hx hb dX2_errorOfAdding_34 (by decide) ?_
        exact x_iret X hr hlocks hP hD hS (by simp only [eoa, if_neg c_1, if_neg c_2, if_neg c_3]) dX2_errorOfAdding_37
    · refine lv_sipush (v := (-1002)) hx hb dX2_errorOfAdding_22 (by decide) ?_
      exact x_iret X hr hlocks hP hD hS (by simp only [eoa, if_neg c_1, if_pos c_2]) dX2_errorOfAdding_25

def mtn (cn : Nat) (sf : Nat → Int32) (mi : Int32) : Int32 := if 2 ≤ cn then fmodC (sf ((pa cn sf mi + 1) % cn) - mi) 1440 else 1440
set_option maxHeartbeats 4000000 in
set_option maxRecDepth 100000 in
theorem c_X2_minutesToNext (l : Launch) (g : wG) (ka sa wa : Nat) (cn : Nat) (hc : cn ≤ 6) (sf wf : Nat → Int32) (h2 : 2 ≤ cn) (mi : Int32) : CtI l g 1 yX2_minutesToNext cX2_minutesToNext 3 (some .int) [.ref ka, .int mi] (KW g ka sa wa (nI cn) sf wf) (mtn cn sf mi) (KW g ka sa wa (nI cn) sf wf) := by
  intro sz
  refine x_enter (Qc := fun A => QI g A (mtn cn sf mi) (KW g ka sa wa (nI cn) sf wf)) (by decide) (Nat.le_of_ble_eq_true rfl) ?_
  intro p e s m args below meth c X hr hlocks A hA hP hD hS ls hl
  obtain ⟨⟨hx, hb, hml, hown, hts⟩, hK, hN⟩ := id X
  have hl : lv_has ls 3 [(0, .ref ka), (1, .int mi)] := hl
  have h1 : 1 ≤ cn := by omega
  refine lv_aload_n hx hb dX2_minutesToNext_0 rfl (lv_at hl 0 rfl) ?_
  refine x_get (v := .int (nI cn)) X 0 2 in_X2 hP rfl rfl (by decide) wF_X2_24 rfl rfl dX2_minutesToNext_1 ?_
  refine lv_iconst (v := 2) hx hb dX2_minutesToNext_4 (by decide) ?_
  refine lv_icmp_ge (tgt := 12) hx hb dX2_minutesToNext_5 (by decide) (fun c_1 => ?_) (fun q9 => absurd (show 2 ≤ (nI cn) from (nI_le (a := 2) h2 (by omega))) (show ¬ (2 ≤ (nI cn)) from q9))
  refine lv_aload_n hx hb dX2_minutesToNext_12 rfl (lv_at hl 0 rfl) ?_
  refine lv_iload_n hx hb dX2_minutesToNext_13 rfl (lv_at hl 1 rfl) ?_
  refine x_goI (wn := KW g ka sa wa (nI cn) sf wf) (x_rV (As := [.int mi]) X (c_X2_placeAt l g ka sa wa cn hc sf wf h1 mi _) yf_X2_placeAt yi_X2_placeAt wM_X2_36 ⟨Nat.le_of_ble_eq_true rfl, Nat.le_of_ble_eq_true rfl⟩ hP hD (p_all _) 0 rfl rfl hl rfl rfl (Nat.le_of_ble_eq_true rfl) dX2_minutesToNext_14 ⟨Nat.zero_le _, Nat.zero_le _⟩) hP hD hS hA (p_all _) (p_back _) (fun H locs hP hD hS => ?_)
  refine lv_iconst (v := 1) hx hb dX2_minutesToNext_17 (by decide) ?_
  refine lv_iadd hx hb dX2_minutesToNext_18 ?_
  refine lv_aload_n hx hb dX2_minutesToNext_19 rfl (lv_at hl 0 rfl) ?_
  refine x_get (v := .int (nI cn)) X 0 2 in_X2 hP rfl rfl (by decide) wF_X2_24 rfl rfl dX2_minutesToNext_20 ?_
  refine lv_irem hx hb dX2_minutesToNext_23 (nI_ne0 (by omega) (by omega)) ?_
  have hlt := pa_lt h1 sf mi
  have hm : (pa cn sf mi + 1) % cn < cn := Nat.mod_lt _ (by omega)
  refine W.eq (g2 := F0 m 24 ls [.int (nI ((pa cn sf mi + 1) % cn))]) (by rw [show nI (pa cn sf mi) + 1 = nI (pa cn sf mi + 1) from nI_1 _, pk_rem (by omega) (by omega) (by omega)]) ?_
  refine lv_istore_n (lv' := [(2, .int (nI ((pa cn sf mi + 1) % cn))), (0, .ref ka), (1, .int mi)]) hx hb dX2_minutesToNext_24 rfl hl (by decide) rfl (fun ls hl => ?_)
  refine lv_aload_n hx hb dX2_minutesToNext_25 rfl (lv_at hl 1 rfl) ?_
  refine x_get (v := .ref sa) X 0 0 in_X2 hP rfl rfl (by decide) wF_X2_9 rfl rfl dX2_minutesToNext_26 ?_
  refine lv_iload_n hx hb dX2_minutesToNext_29 rfl (lv_at hl 0 rfl) ?_
  refine x_iald (v := (sf ((pa cn sf mi + 1) % cn))) X 1 ((pa cn sf mi + 1) % cn) hP rfl rfl (by omega) (Nat.le_of_ble_eq_true rfl) rfl dX2_minutesToNext_30 ?_
  refine lv_iload_n hx hb dX2_minutesToNext_31 rfl (lv_at hl 2 rfl) ?_
  refine lv_isub hx hb dX2_minutesToNext_32 ?_
  refine lv_sipush (v := 1440) hx hb dX2_minutesToNext_33 (by decide) ?_
  refine x_goI (wn := KW g ka sa wa (nI cn) sf wf) (x_rS (As := [.int ((sf ((pa cn sf mi + 1) % cn)) - mi), .int 1440]) X (c_J9_floorMod_7cf53 l g ((sf ((pa cn sf mi + 1) % cn)) - mi) 1440 (by decide) _) yf_J9_floorMod_7cf53 ys_J9_floorMod_7cf53 wM_X2_40 ⟨Nat.le_of_ble_eq_true rfl, Nat.le_of_ble_eq_true rfl⟩ hP hD (p_none _) hl rfl rfl (Nat.le_of_ble_eq_true rfl) dX2_minutesToNext_36 ⟨Nat.zero_le _, Nat.zero_le _⟩) hP hD hS hA (p_none _) (p_noneB _) (fun H locs hP hD hS => ?_)
  exact x_iret X hr hlocks hP hD hS (by simp only [mtn, if_pos h2]) dX2_minutesToNext_39

set_option maxHeartbeats 4000000 in
set_option maxRecDepth 100000 in
theorem c_X2_minutesToNext1 (l : Launch) (g : wG) (ka sa wa : Nat) (cn : Nat) (hc : cn ≤ 6) (sf wf : Nat → Int32) (h2 : ¬ 2 ≤ cn) (mi : Int32) : CtI l g 1 yX2_minutesToNext cX2_minutesToNext 3 (some .int) [.ref ka, .int mi] (KW g ka sa wa (nI cn) sf wf) (mtn cn sf mi) (KW g ka sa wa (nI cn) sf wf) := by
  intro sz
  refine x_enter (Qc := fun A => QI g A (mtn cn sf mi) (KW g ka sa wa (nI cn) sf wf)) (by decide) (Nat.le_of_ble_eq_true rfl) ?_
  intro p e s m args below meth c X hr hlocks A hA hP hD hS ls hl
  obtain ⟨⟨hx, hb, hml, hown, hts⟩, hK, hN⟩ := id X
  have hl : lv_has ls 3 [(0, .ref ka), (1, .int mi)] := hl
  refine lv_aload_n hx hb dX2_minutesToNext_0 rfl (lv_at hl 0 rfl) ?_
  refine x_get (v := .int (nI cn)) X 0 2 in_X2 hP rfl rfl (by decide) wF_X2_24 rfl rfl dX2_minutesToNext_1 ?_
  refine lv_iconst (v := 2) hx hb dX2_minutesToNext_4 (by decide) ?_
  refine lv_icmp_ge (tgt := 12) hx hb dX2_minutesToNext_5 (by decide) (fun q9 => absurd q9 (show ¬ 2 ≤ (nI cn) from (nI_ge (b := 2) (by omega) (by decide)))) (fun c_1 => ?_)
  refine lv_sipush (v := 1440) hx hb dX2_minutesToNext_8 (by decide) ?_
  exact x_iret X hr hlocks hP hD hS (by simp only [mtn, if_neg h2]) dX2_minutesToNext_11

set_option maxHeartbeats 4000000 in
set_option maxRecDepth 100000 in
theorem c_X2_copyFrom (l : Launch) (g : wG) (ka sa wa kb sb wb : Nat) (c0 c1 : Int32) (sf wf s2 w2 : Nat → Int32) : CtV l g 1 yX2_copyFrom cX2_copyFrom 2 none [.ref ka, .ref kb] ((KW g ka sa wa c0 sf wf) ++ (KW g kb sb wb c1 s2 w2)) ((KW g ka sa wa c1 s2 w2) ++ (KW g kb sb wb c1 s2 w2)) := by
  intro sz
  refine x_enter (Qc := fun A => QV g A ((KW g ka sa wa c1 s2 w2) ++ (KW g kb sb wb c1 s2 w2))) (by decide) (Nat.le_of_ble_eq_true rfl) ?_
  intro p e s m args below meth c X hr hlocks A hA hP hD hS ls hl
  obtain ⟨⟨hx, hb, hml, hown, hts⟩, hK, hN⟩ := id X
  have hl : lv_has ls 2 [(0, .ref ka), (1, .ref kb)] := hl
  refine lv_aload_n hx hb dX2_copyFrom_0 rfl (lv_at hl 1 rfl) ?_
  refine x_get (v := .ref sb) X 3 0 in_X2 hP rfl rfl (by decide) wF_X2_9 rfl rfl dX2_copyFrom_1 ?_
  refine lv_iconst (v := 0) hx hb dX2_copyFrom_4 (by decide) ?_
  refine lv_aload_n hx hb dX2_copyFrom_5 rfl (lv_at hl 0 rfl) ?_
  refine x_get (v := .ref sa) X 0 0 in_X2 hP rfl rfl (by decide) wF_X2_9 rfl rfl dX2_copyFrom_6 ?_
  refine lv_iconst (v := 0) hx hb dX2_copyFrom_9 (by decide) ?_
  refine lv_bipush (v := 6) hx hb dX2_copyFrom_10 (by decide) ?_
  refine x_copy (n := 6) (ws2 := (KW g ka sa wa c0 s2 wf) ++ (KW g kb sb wb c1 s2 w2)) X hl wM_X2_18 ⟨yv_arraycopy, ys_arraycopyName, wI_RJ10⟩ hP hD hS 4 1 rfl rfl (Nat.le_of_ble_eq_true rfl) ⟨Nat.le_of_ble_eq_true rfl, Nat.le_of_ble_eq_true rfl⟩ rfl dX2_copyFrom_12 (fun H locs hP hD hS => ?_)
  refine lv_aload_n hx hb dX2_copyFrom_15 rfl (lv_at hl 1 rfl) ?_
  refine x_get (v := .ref wb) X 3 1 in_X2 hP rfl rfl (by decide) wF_X2_15 rfl rfl dX2_copyFrom_16 ?_
  refine lv_iconst (v := 0) hx hb dX2_copyFrom_19 (by decide) ?_
  refine lv_aload_n hx hb dX2_copyFrom_20 rfl (lv_at hl 0 rfl) ?_
  refine x_get (v := .ref wa) X 0 1 in_X2 hP rfl rfl (by decide) wF_X2_15 rfl rfl dX2_copyFrom_21 ?_
  refine lv_iconst (v := 0) hx hb dX2_copyFrom_24 (by decide) ?_
  refine lv_bipush (v := 6) hx hb dX2_copyFrom_25 (by decide) ?_
  refine x_copy (n := 6) (ws2 := (KW g ka sa wa c0 s2 w2) ++ (KW g kb sb wb c1 s2 w2)) X hl wM_X2_18 ⟨yv_arraycopy, ys_arraycopyName, wI_RJ10⟩ hP hD hS 5 2 rfl rfl (Nat.le_of_ble_eq_true rfl) ⟨Nat.le_of_ble_eq_true rfl, Nat.le_of_ble_eq_true rfl⟩ rfl dX2_copyFrom_27 (fun H locs hP hD hS => ?_)
  refine lv_aload_n hx hb dX2_copyFrom_30 rfl (lv_at hl 0 rfl) ?_
  refine lv_aload_n hx hb dX2_copyFrom_31 rfl (lv_at hl 1 rfl) ?_
  refine x_get (v := .int c1) X 3 2 in_X2 hP rfl rfl (by decide) wF_X2_24 rfl rfl dX2_copyFrom_32 ?_
  refine x_put (v := .int c1) (ty0 := tyX2) (ws2 := (KW g ka sa wa c1 s2 w2) ++ (KW g kb sb wb c1 s2 w2)) X 0 2 in_X2 tyX2_ok nmX2 hP hD hS rfl rfl (by decide) wF_X2_24 rfl rfl rfl rfl (Nat.le_of_ble_eq_true rfl) rfl dX2_copyFrom_35 (fun H locs hP hD hS => ?_)
  exact x_vret X hr hlocks hP hD hS dX2_copyFrom_38

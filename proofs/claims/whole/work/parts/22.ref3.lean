theorem MW_ext {g : wG} {o : Nat → Nat} {r r' : MS} {H : Heap} (h1 : ∀ j, j < 48 → mZ r j = mZ r' j) (h2 : ∀ j, j < 240 → mP r j = mP r' j) (h3 : ∀ j, j < 48 → mK r j = mK r' j) (h4 : ∀ j, j < 48 → mA r j = mA r' j)
    (h5 : mB r = mB r') (h6 : mO r = mO r') (h7 : r.2.2.2.2.2.2 = r'.2.2.2.2.2.2) (hP : va_P g.1 vwCl (MW g o r) H) : va_P g.1 vwCl (MW g o r') H := by
  obtain ⟨z1, p1, k1, a1, b1, t1, c1⟩ := r
  obtain ⟨z2, p2, k2, a2, b2, t2, c2⟩ := r'
  have h5 : b1 = b2 := h5
  have h6 : t1 = t2 := h6
  have h7 : c1 = c2 := h7
  subst h5; subst h6; subst h7
  intro k q hk
  match k, hk with
  | 0, hk => exact hP 0 q hk
  | 1, hk => obtain rfl := Option.some.inj hk; exact wo_row h1 (hP 1 _ rfl)
  | 2, hk => obtain rfl := Option.some.inj hk; exact wo_row h2 (hP 2 _ rfl)
  | 3, hk => obtain rfl := Option.some.inj hk; exact wo_row h3 (hP 3 _ rfl)
  | 4, hk => obtain rfl := Option.some.inj hk; exact wo_row h4 (hP 4 _ rfl)
  | 5, hk => exact hP 5 q hk
  | 6, hk => exact hP 6 q hk
  | k + 7, hk => simp [MW] at hk
theorem MW_extD {g : wG} {o : Nat → Nat} {A : Nat → Prop} (r r' : MS) (hD : va_D A (MW g o r)) : va_D A (MW g o r') := wo_D_addr hD rfl
/-- the first n places of f, then g -/
def cpF (f g : RI) (n : Nat) : RI := fun j => if j < n then f j else g j
theorem cpF_0 (f g : RI) : cpF f g 0 = g := by funext j; simp [cpF]
theorem cpF_s (f g : RI) (k : Nat) : upd (cpF f g k) k (f k) = cpF f g (k + 1) := by
  funext j
  simp only [upd, cpF]
  by_cases h : j = k
  · subst h; rw [if_pos rfl, if_pos (by omega)]
  · rw [if_neg h]
    by_cases h2 : j < k
    · rw [if_pos h2, if_pos (by omega)]
    · rw [if_neg h2, if_neg (by omega)]
theorem cpF_in {f g : RI} {n j : Nat} (h : j < n) : cpF f g n j = f j := by simp only [cpF]; rw [if_pos h]
abbrev mas (r : MS) : MS := (mZ r, mP r, mK r, mZ r, r.2.2.2.2)
abbrev mkp (r : MS) : MS := (mZ r, mP r, mZ r, mA r, mB r, mO r, mM r, 1, r.2.2.2.2.2.2.2.2)
set_option maxHeartbeats 4000000 in
set_option maxRecDepth 100000 in
theorem c_X6_putAside (l : Launch) (g : wG) (o : Nat → Nat) (r : MS) : CtV l g 0 yX6_putAside cX6_putAside 2 none [.ref (o 0)] (MW g o r) (MW g o (mas r)) := by
  intro sz
  refine x_enter (Qc := fun A => QV g A (MW g o (mas r))) (by decide) (Nat.le_of_ble_eq_true rfl) ?_
  intro p e s m args below meth c X hr hlocks A hA hP hD hS ls hl
  obtain ⟨⟨hx, hb, hml, hown, hts⟩, hK, hN⟩ := id X
  have hl : lv_has ls 2 [(0, .ref (o 0))] := hl
  refine lv_iconst (v := 0) hx hb dX6_putAside_0 (by decide) ?_
  refine lv_istore_n (lv' := [(1, .int 0), (0, .ref (o 0))]) hx hb dX6_putAside_1 rfl hl (by decide) rfl (fun ls hl => ?_)
  suffices LP2 : ∀ (n k : Nat), k + n = 48 → ∀ (ls : Array Slot) (H : Heap) (locs : List Loc), va_P g.1 vwCl (MW g o ((mZ r), (mP r), (mK r), (cpF (mZ r) (mA r) k), (mB r), (mO r), (mM r), (mI r), (mY r), (mT r), (mS r), (mW r))) H → va_D A (MW g o ((mZ r), (mP r), (mK r), (cpF (mZ r) (mA r) k), (mB r), (mO r), (mM r), (mI r), (mY r), (mT r), (mS r), (mW r))) → va_S A s.heap H locs → lv_has ls 2 [(1, .int (nI k)), (0, .ref (o 0))] → W p l e (rmD 0) s m args below meth c H locs 0 0 (MQ below (QV g A (MW g o (mas r))) args s 0 0 A) (F0 m 2 ls []) from LP2 48 0 rfl ls _ _ (by rw [cpF_0]; exact hP) (by rw [cpF_0]; exact hD) hS (lv_sub hl [0, 1] rfl)
  intro n
  induction n with
  | zero =>
    intro k hk ls H locs hP hD hS hl
    obtain rfl : k = 48 := by omega
    refine lv_iload_n hx hb dX6_putAside_2 rfl (lv_at hl 0 rfl) ?_
    refine lv_bipush (v := 48) hx hb dX6_putAside_3 (by decide) ?_
    refine lv_icmp_ge (tgt := 26) hx hb dX6_putAside_5 (by decide) (fun c_1 => ?_) (fun q9 => absurd (show 48 ≤ (nI 48) from (nI_le (a := 48) (by omega) (by omega))) (show ¬ (48 ≤ (nI 48)) from q9))
    have hP2 : va_P g.1 vwCl (MW g o (mas r)) H := MW_ext (r := ((mZ r), (mP r), (mK r), (cpF (mZ r) (mA r) 48), (mB r), (mO r), (mM r), (mI r), (mY r), (mT r), (mS r), (mW r))) (r' := (mas r)) (fun j hj => rfl) (fun j hj => rfl) (fun j hj => rfl) (fun j hj => cpF_in hj) rfl rfl rfl hP
    exact x_vret X hr hlocks hP2 (MW_extD _ _ hD) hS dX6_putAside_26
  | succ n ih =>
    intro k hk ls H locs hP hD hS hl
    refine lv_iload_n hx hb dX6_putAside_2 rfl (lv_at hl 0 rfl) ?_
    refine lv_bipush (v := 48) hx hb dX6_putAside_3 (by decide) ?_
    refine lv_icmp_ge (tgt := 26) hx hb dX6_putAside_5 (by decide) (fun q9 => absurd q9 (show ¬ 48 ≤ (nI k) from (nI_ge (b := 48) (by omega) (by decide)))) (fun c_2 => ?_)
    refine lv_aload_n hx hb dX6_putAside_8 rfl (lv_at hl 1 rfl) ?_
    refine x_get (v := .ref (o 4)) X 0 5 in_X6 hP rfl rfl (by decide) wF_X6_19 rfl rfl dX6_putAside_9 ?_
    refine lv_iload_n hx hb dX6_putAside_12 rfl (lv_at hl 0 rfl) ?_
    refine lv_aload_n hx hb dX6_putAside_13 rfl (lv_at hl 1 rfl) ?_
    refine x_get (v := .ref (o 1)) X 0 0 in_X6 hP rfl rfl (by decide) wF_X6_7 rfl rfl dX6_putAside_14 ?_
    refine lv_iload_n hx hb dX6_putAside_17 rfl (lv_at hl 0 rfl) ?_
    refine x_iald (v := ((mZ r) k)) X 1 k hP rfl rfl (by omega) (Nat.le_of_ble_eq_true rfl) rfl dX6_putAside_18 ?_
    refine x_iast (ws2 := MW g o ((mZ r), (mP r), (mK r), (upd (cpF (mZ r) (mA r) k) k ((mZ r) k)), (mB r), (mO r), (mM r), (mI r), (mY r), (mT r), (mS r), (mW r))) X 4 k hP hD hS rfl rfl (by omega) (Nat.le_of_ble_eq_true rfl) rfl dX6_putAside_19 (fun H locs hP hD hS => ?_)
    refine lv_iinc (v := (nI (k + 1))) (lv' := [(1, .int (nI (k + 1))), (0, .ref (o 0))]) hx hb dX6_putAside_20 hl (k := 0) rfl (nI_1 _) (by decide) rfl (fun ls hl => ?_)
    refine lv_goto (tgt := 2) hx hb dX6_putAside_23 (by decide) ?_
    rw [cpF_s] at hP hD
    exact ih (k + 1) (by omega) ls _ _ hP hD hS (lv_sub hl [0, 1] rfl)

set_option maxHeartbeats 4000000 in
set_option maxRecDepth 100000 in
theorem c_X6_takeBack (l : Launch) (g : wG) (o : Nat → Nat) (r : MS) : CtV l g 0 yX6_takeBack cX6_takeBack 2 none [.ref (o 0)] (MW g o r) (MW g o (mz r (mA r))) := by
  intro sz
  refine x_enter (Qc := fun A => QV g A (MW g o (mz r (mA r)))) (by decide) (Nat.le_of_ble_eq_true rfl) ?_
  intro p e s m args below meth c X hr hlocks A hA hP hD hS ls hl
  obtain ⟨⟨hx, hb, hml, hown, hts⟩, hK, hN⟩ := id X
  have hl : lv_has ls 2 [(0, .ref (o 0))] := hl
  refine lv_iconst (v := 0) hx hb dX6_takeBack_0 (by decide) ?_
  refine lv_istore_n (lv' := [(1, .int 0), (0, .ref (o 0))]) hx hb dX6_takeBack_1 rfl hl (by decide) rfl (fun ls hl => ?_)
  suffices LP2 : ∀ (n k : Nat), k + n = 48 → ∀ (ls : Array Slot) (H : Heap) (locs : List Loc), va_P g.1 vwCl (MW g o (mz r (cpF (mA r) (mZ r) k))) H → va_D A (MW g o (mz r (cpF (mA r) (mZ r) k))) → va_S A s.heap H locs → lv_has ls 2 [(1, .int (nI k)), (0, .ref (o 0))] → W p l e (rmD 0) s m args below meth c H locs 0 0 (MQ below (QV g A (MW g o (mz r (mA r)))) args s 0 0 A) (F0 m 2 ls []) from LP2 48 0 rfl ls _ _ (by rw [cpF_0]; exact hP) (by rw [cpF_0]; exact hD) hS (lv_sub hl [0, 1] rfl)
  intro n
  induction n with
  | zero =>
    intro k hk ls H locs hP hD hS hl
    obtain rfl : k = 48 := by omega
    refine lv_iload_n hx hb dX6_takeBack_2 rfl (lv_at hl 0 rfl) ?_
    refine lv_bipush (v := 48) hx hb dX6_takeBack_3 (by decide) ?_
    refine lv_icmp_ge (tgt := 26) hx hb dX6_takeBack_5 (by decide) (fun c_1 => ?_) (fun q9 => absurd (show 48 ≤ (nI 48) from (nI_le (a := 48) (by omega) (by omega))) (show ¬ (48 ≤ (nI 48)) from q9))
    have hP2 : va_P g.1 vwCl (MW g o (mz r (mA r))) H := MW_ext (r := (mz r (cpF (mA r) (mZ r) 48))) (r' := (mz r (mA r))) (fun j hj => cpF_in hj) (fun j hj => rfl) (fun j hj => rfl) (fun j hj => rfl) rfl rfl rfl hP
    exact x_vret X hr hlocks hP2 (MW_extD _ _ hD) hS dX6_takeBack_26
  | succ n ih =>
    intro k hk ls H locs hP hD hS hl
    refine lv_iload_n hx hb dX6_takeBack_2 rfl (lv_at hl 0 rfl) ?_
    refine lv_bipush (v := 48) hx hb dX6_takeBack_3 (by decide) ?_
    refine lv_icmp_ge (tgt := 26) hx hb dX6_takeBack_5 (by decide) (fun q9 => absurd q9 (show ¬ 48 ≤ (nI k) from (nI_ge (b := 48) (by omega) (by decide)))) (fun c_2 => ?_)
    refine lv_aload_n hx hb dX6_takeBack_8 rfl (lv_at hl 1 rfl) ?_
    refine x_get (v := .ref (o 1)) X 0 0 in_X6 hP rfl rfl (by decide) wF_X6_7 rfl rfl dX6_takeBack_9 ?_
    refine lv_iload_n hx hb dX6_takeBack_12 rfl (lv_at hl 0 rfl) ?_
    refine lv_aload_n hx hb dX6_takeBack_13 rfl (lv_at hl 1 rfl) ?_
    refine x_get (v := .ref (o 4)) X 0 5 in_X6 hP rfl rfl (by decide) wF_X6_19 rfl rfl dX6_takeBack_14 ?_
    refine lv_iload_n hx hb dX6_takeBack_17 rfl (lv_at hl 0 rfl) ?_
    refine x_iald (v := ((mA r) k)) X 4 k hP rfl rfl (by omega) (Nat.le_of_ble_eq_true rfl) rfl dX6_takeBack_18 ?_
    refine x_iast (ws2 := MW g o (mz r (upd (cpF (mA r) (mZ r) k) k ((mA r) k)))) X 1 k hP hD hS rfl rfl (by omega) (Nat.le_of_ble_eq_true rfl) rfl dX6_takeBack_19 (fun H locs hP hD hS => ?_)
    refine lv_iinc (v := (nI (k + 1))) (lv' := [(1, .int (nI (k + 1))), (0, .ref (o 0))]) hx hb dX6_takeBack_20 hl (k := 0) rfl (nI_1 _) (by decide) rfl (fun ls hl => ?_)
    refine lv_goto (tgt := 2) hx hb dX6_takeBack_23 (by decide) ?_
    rw [cpF_s] at hP hD
    exact ih (k + 1) (by omega) ls _ _ hP hD hS (lv_sub hl [0, 1] rfl)

set_option maxHeartbeats 4000000 in
set_option maxRecDepth 100000 in
theorem c_X6_save (l : Launch) (g : wG) (o : Nat → Nat) (r : MS) : CtI l g 0 yX6_save cX6_save 2 (some .int) [.ref (o 0)] (MW g o r) (mZ r 0) (MW g o (mkp r)) := by
  intro sz
  refine x_enter (Qc := fun A => QI g A (mZ r 0) (MW g o (mkp r))) (by decide) (Nat.le_of_ble_eq_true rfl) ?_
  intro p e s m args below meth c X hr hlocks A hA hP hD hS ls hl
  obtain ⟨⟨hx, hb, hml, hown, hts⟩, hK, hN⟩ := id X
  have hl : lv_has ls 2 [(0, .ref (o 0))] := hl
  refine lv_aload_n hx hb dX6_save_0 rfl (lv_at hl 0 rfl) ?_
  refine lv_iconst (v := 1) hx hb dX6_save_1 (by decide) ?_
  refine x_put (v := .int 1) (ty0 := tyX6) (ws2 := MW g o ((mZ r), (mP r), (mK r), (mA r), (mB r), (mO r), (mM r), 1, (mY r), (mT r), (mS r), (mW r))) X 0 4 in_X6 tyX6_ok nmX6 hP hD hS rfl rfl (by decide) wF_X6_41 rfl rfl rfl rfl (Nat.le_of_ble_eq_true rfl) rfl dX6_save_2 (fun H locs hP hD hS => ?_)
  refine lv_iconst (v := 0) hx hb dX6_save_5 (by decide) ?_
  refine lv_istore_n (lv' := [(1, .int 0), (0, .ref (o 0))]) hx hb dX6_save_6 rfl hl (by decide) rfl (fun ls hl => ?_)
  suffices LP7 : ∀ (n k : Nat), k + n = 48 → ∀ (ls : Array Slot) (H : Heap) (locs : List Loc), va_P g.1 vwCl (MW g o ((mZ r), (mP r), (cpF (mZ r) (mK r) k), (mA r), (mB r), (mO r), (mM r), 1, (mY r), (mT r), (mS r), (mW r))) H → va_D A (MW g o ((mZ r), (mP r), (cpF (mZ r) (mK r) k), (mA r), (mB r), (mO r), (mM r), 1, (mY r), (mT r), (mS r), (mW r))) → va_S A s.heap H locs → lv_has ls 2 [(1, .int (nI k)), (0, .ref (o 0))] → W p l e (rmD 0) s m args below meth c H locs 0 0 (MQ below (QI g A (mZ r 0) (MW g o (mkp r))) args s 0 0 A) (F0 m 7 ls []) from LP7 48 0 rfl ls _ _ (by rw [cpF_0]; exact hP) (by rw [cpF_0]; exact hD) hS (lv_sub hl [0, 1] rfl)
  intro n
  induction n with
  | zero =>
    intro k hk ls H locs hP hD hS hl
    obtain rfl : k = 48 := by omega
    refine lv_iload_n hx hb dX6_save_7 rfl (lv_at hl 0 rfl) ?_
    refine lv_bipush (v := 48) hx hb dX6_save_8 (by decide) ?_
    refine lv_icmp_ge (tgt := 31) hx hb dX6_save_10 (by decide) (fun c_1 => ?_) (fun q9 => absurd (show 48 ≤ (nI 48) from (nI_le (a := 48) (by omega) (by omega))) (show ¬ (48 ≤ (nI 48)) from q9))
    refine lv_aload_n hx hb dX6_save_31 rfl (lv_at hl 1 rfl) ?_
    refine x_get (v := .ref (o 1)) X 0 0 in_X6 hP rfl rfl (by decide) wF_X6_7 rfl rfl dX6_save_32 ?_
    refine lv_iconst (v := 0) hx hb dX6_save_35 (by decide) ?_
    refine x_iald (v := ((mZ r) 0)) X 1 0 hP rfl rfl (by decide) (Nat.le_of_ble_eq_true rfl) rfl dX6_save_36 ?_
    have hP2 : va_P g.1 vwCl (MW g o (mkp r)) H := MW_ext (r := ((mZ r), (mP r), (cpF (mZ r) (mK r) 48), (mA r), (mB r), (mO r), (mM r), 1, (mY r), (mT r), (mS r), (mW r))) (r' := (mkp r)) (fun j hj => rfl) (fun j hj => rfl) (fun j hj => cpF_in hj) (fun j hj => rfl) rfl rfl rfl hP
    exact x_iret X hr hlocks hP2 (MW_extD _ _ hD) hS rfl dX6_save_37
  | succ n ih =>
    intro k hk ls H locs hP hD hS hl
    refine lv_iload_n hx hb dX6_save_7 rfl (lv_at hl 0 rfl) ?_
    refine lv_bipush (v := 48) hx hb dX6_save_8 (by decide) ?_
    refine lv_icmp_ge (tgt := 31) hx hb dX6_save_10 (by decide) (fun q9 => absurd q9 (show ¬ 48 ≤ (nI k) from (nI_ge (b := 48) (by omega) (by decide)))) (fun c_2 => ?_)
    refine lv_aload_n hx hb dX6_save_13 rfl (lv_at hl 1 rfl) ?_
    refine x_get (v := .ref (o 3)) X 0 3 in_X6 hP rfl rfl (by decide) wF_X6_16 rfl rfl dX6_save_14 ?_
    refine lv_iload_n hx hb dX6_save_17 rfl (lv_at hl 0 rfl) ?_
    refine lv_aload_n hx hb dX6_save_18 rfl (lv_at hl 1 rfl) ?_
    refine x_get (v := .ref (o 1)) X 0 0 in_X6 hP rfl rfl (by decide) wF_X6_7 rfl rfl dX6_save_19 ?_
    refine lv_iload_n hx hb dX6_save_22 rfl (lv_at hl 0 rfl) ?_
    refine x_iald (v := ((mZ r) k)) X 1 k hP rfl rfl (by omega) (Nat.le_of_ble_eq_true rfl) rfl dX6_save_23 ?_
    refine x_iast (ws2 := MW g o ((mZ r), (mP r), (upd (cpF (mZ r) (mK r) k) k ((mZ r) k)), (mA r), (mB r), (mO r), (mM r), 1, (mY r), (mT r), (mS r), (mW r))) X 3 k hP hD hS rfl rfl (by omega) (Nat.le_of_ble_eq_true rfl) rfl dX6_save_24 (fun H locs hP hD hS => ?_)
    refine lv_iinc (v := (nI (k + 1))) (lv' := [(1, .int (nI (k + 1))), (0, .ref (o 0))]) hx hb dX6_save_25 hl (k := 0) rfl (nI_1 _) (by decide) rfl (fun ls hl => ?_)
    refine lv_goto (tgt := 7) hx hb dX6_save_28 (by decide) ?_
    rw [cpF_s] at hP hD
    exact ih (k + 1) (by omega) ls _ _ hP hD hS (lv_sub hl [0, 1] rfl)

/-- the recorded states go one place down -/
def shF (p : RI) (k : Nat) : RI := fun j => if j < k then p (j + 48) else p j
theorem shF_0 (p : RI) : shF p 0 = p := by funext j; simp [shF]
theorem shF_r (p : RI) (k : Nat) : shF p k (k + 48) = p (k + 48) := by simp only [shF]; rw [if_neg (by omega)]
theorem shF_s (p : RI) (k : Nat) : upd (shF p k) k (p (k + 48)) = shF p (k + 1) := by
  funext j
  simp only [upd, shF]
  by_cases h : j = k
  · subst h; rw [if_pos rfl, if_pos (by omega)]
  · rw [if_neg h]
    by_cases h2 : j < k
    · rw [if_pos h2, if_pos (by omega)]
    · rw [if_neg h2, if_neg (by omega)]
/-- a state is laid at the place b of the recorded ones -/
def cpO (z p : RI) (b k : Nat) : RI := fun j => if b ≤ j ∧ j < b + k then z (j - b) else p j
theorem cpO_0 (z p : RI) (b : Nat) : cpO z p b 0 = p := by funext j; simp only [cpO]; rw [if_neg (by omega)]
theorem cpO_s (z p : RI) (b k : Nat) : upd (cpO z p b k) (b + k) (z k) = cpO z p b (k + 1) := by
  funext j
  simp only [upd, cpO]
  by_cases h : j = b + k
  · subst h; rw [if_pos rfl, if_pos (by omega), Nat.add_sub_cancel_left]
  · rw [if_neg h]
    by_cases h2 : b ≤ j ∧ j < b + k
    · rw [if_pos h2, if_pos (by omega)]
    · rw [if_neg h2, if_neg (by omega)]
def rcP (r : MS) : RI := if mM r = 5 then cpO (mZ r) (shF (mP r) 192) (4 * 48) 48 else cpO (mZ r) (mP r) (mM r * 48) 48
def rcN (r : MS) : Nat := if mM r = 5 then 5 else mM r + 1
def mrec (r : MS) : MS := (mZ r, rcP r, mK r, mA r, mB r, mO r, rcN r, r.2.2.2.2.2.2.2)
theorem ix_b (b k : Nat) : nI b * 48 + nI k = nI (b * 48 + k) := by
  rw [show (48 : Int32) = nI 48 from rfl, pk_mul, nI_add]
set_option maxHeartbeats 4000000 in
set_option maxRecDepth 100000 in
theorem c_X6_record_a (l : Launch) (g : wG) (o : Nat → Nat) (r : MS) (hm5 : mM r ≤ 5) (h5 : ¬ mM r = 5) : CtV l g 0 yX6_record cX6_record 2 none [.ref (o 0)] (MW g o r) (MW g o (mrec r)) := by
  intro sz
  refine x_enter (Qc := fun A => QV g A (MW g o (mrec r))) (by decide) (Nat.le_of_ble_eq_true rfl) ?_
  intro p e s m args below meth c X hr hlocks A hA hP hD hS ls hl
  obtain ⟨⟨hx, hb, hml, hown, hts⟩, hK, hN⟩ := id X
  have hl : lv_has ls 2 [(0, .ref (o 0))] := hl
  refine lv_aload_n hx hb dX6_record_0 rfl (lv_at hl 0 rfl) ?_
  refine x_get (v := .int (nI (mM r))) X 0 2 in_X6 hP rfl rfl (by decide) wF_X6_37 rfl rfl dX6_record_1 ?_
  refine lv_iconst (v := 5) hx hb dX6_record_4 (by decide) ?_
  refine lv_icmp_ne (tgt := 48) hx hb dX6_record_5 (by decide) (fun c_1 => ?_) (fun q9 => absurd (show (nI (mM r)) = 5 from q9) (show ¬ (nI (mM r)) = 5 from (fun e5 => h5 ((nI_eq (b := 5) (by omega) (by decide)).mp e5))))
  refine lv_iconst (v := 0) hx hb dX6_record_48 (by decide) ?_
  refine lv_istore_n (lv' := [(1, .int 0), (0, .ref (o 0))]) hx hb dX6_record_49 rfl hl (by decide) rfl (fun ls hl => ?_)
  suffices LQ50 : ∀ (n k : Nat), k + n = 48 → ∀ (ls : Array Slot) (H : Heap) (locs : List Loc), va_P g.1 vwCl (MW g o ((mZ r), (cpO (mZ r) (mP r) ((mM r) * 48) k), (mK r), (mA r), (mB r), (mO r), (mM r), (mI r), (mY r), (mT r), (mS r), (mW r))) H → va_D A (MW g o ((mZ r), (cpO (mZ r) (mP r) ((mM r) * 48) k), (mK r), (mA r), (mB r), (mO r), (mM r), (mI r), (mY r), (mT r), (mS r), (mW r))) → va_S A s.heap H locs → lv_has ls 2 [(1, .int (nI k)), (0, .ref (o 0))] → W p l e (rmD 0) s m args below meth c H locs 0 0 (MQ below (QV g A (MW g o (mrec r))) args s 0 0 A) (F0 m 50 ls []) from LQ50 48 0 rfl ls _ _ (by rw [cpO_0]; exact hP) (by rw [cpO_0]; exact hD) hS (lv_sub hl [0, 1] rfl)
  intro n
  induction n with
  | zero =>
    intro k hk ls H locs hP hD hS hl
    obtain rfl : k = 48 := by omega
    refine lv_iload_n hx hb dX6_record_50 rfl (lv_at hl 0 rfl) ?_
    refine lv_bipush (v := 48) hx hb dX6_record_51 (by decide) ?_
    refine lv_icmp_ge (tgt := 82) hx hb dX6_record_53 (by decide) (fun c_2 => ?_) (fun q9 => absurd (show 48 ≤ (nI 48) from (nI_le (a := 48) (by omega) (by omega))) (show ¬ (48 ≤ (nI 48)) from q9))
    refine lv_aload_n hx hb dX6_record_82 rfl (lv_at hl 1 rfl) ?_
    refine lv_dup hx hb dX6_record_83 rfl ?_
    refine x_get (v := .int (nI (mM r))) X 0 2 in_X6 hP rfl rfl (by decide) wF_X6_37 rfl rfl dX6_record_84 ?_
    refine lv_iconst (v := 1) hx hb dX6_record_87 (by decide) ?_
    refine lv_iadd hx hb dX6_record_88 ?_
    refine W.eq (g2 := F0 m 89 ls [.int (nI ((mM r) + 1)), .ref (o 0)]) (by rw [nI_1]) ?_
    refine x_put (v := .int (nI ((mM r) + 1))) (ty0 := tyX6) (ws2 := MW g o ((mZ r), (cpO (mZ r) (mP r) ((mM r) * 48) 48), (mK r), (mA r), (mB r), (mO r), ((mM r) + 1), (mI r), (mY r), (mT r), (mS r), (mW r))) X 0 2 in_X6 tyX6_ok nmX6 hP hD hS rfl rfl (by decide) wF_X6_37 rfl rfl rfl rfl (Nat.le_of_ble_eq_true rfl) rfl dX6_record_89 (fun H locs hP hD hS => ?_)
    have E : (MW g o ((mZ r), (cpO (mZ r) (mP r) ((mM r) * 48) 48), (mK r), (mA r), (mB r), (mO r), ((mM r) + 1), (mI r), (mY r), (mT r), (mS r), (mW r)) : va_W) = MW g o (mrec r) := by unfold mrec rcP rcN; rw [if_neg h5, if_neg h5]
    exact x_vret X hr hlocks (pw E hP) (dw E hD) hS dX6_record_92
  | succ n ih =>
    intro k hk ls H locs hP hD hS hl
    refine lv_iload_n hx hb dX6_record_50 rfl (lv_at hl 0 rfl) ?_
    refine lv_bipush (v := 48) hx hb dX6_record_51 (by decide) ?_
    refine lv_icmp_ge (tgt := 82) hx hb dX6_record_53 (by decide) (fun q9 => absurd q9 (show ¬ 48 ≤ (nI k) from (nI_ge (b := 48) (by omega) (by decide)))) (fun c_3 => ?_)
    refine lv_aload_n hx hb dX6_record_56 rfl (lv_at hl 1 rfl) ?_
    refine x_get (v := .ref (o 2)) X 0 1 in_X6 hP rfl rfl (by decide) wF_X6_13 rfl rfl dX6_record_57 ?_
    refine lv_aload_n hx hb dX6_record_60 rfl (lv_at hl 1 rfl) ?_
    refine x_get (v := .int (nI (mM r))) X 0 2 in_X6 hP rfl rfl (by decide) wF_X6_37 rfl rfl dX6_record_61 ?_
    refine lv_bipush (v := 48) hx hb dX6_record_64 (by decide) ?_
    refine lv_imul hx hb dX6_record_66 ?_
    refine lv_iload_n hx hb dX6_record_67 rfl (lv_at hl 0 rfl) ?_
    refine lv_iadd hx hb dX6_record_68 ?_
    refine lv_aload_n hx hb dX6_record_69 rfl (lv_at hl 1 rfl) ?_
    refine x_get (v := .ref (o 1)) X 0 0 in_X6 hP rfl rfl (by decide) wF_X6_7 rfl rfl dX6_record_70 ?_
    refine lv_iload_n hx hb dX6_record_73 rfl (lv_at hl 0 rfl) ?_
    refine x_iald (v := ((mZ r) k)) X 1 k hP rfl rfl (by omega) (Nat.le_of_ble_eq_true rfl) rfl dX6_record_74 ?_
    refine x_iast (ws2 := MW g o ((mZ r), (upd (cpO (mZ r) (mP r) ((mM r) * 48) k) ((mM r) * 48 + k) ((mZ r) k)), (mK r), (mA r), (mB r), (mO r), (mM r), (mI r), (mY r), (mT r), (mS r), (mW r))) X 2 ((mM r) * 48 + k) hP hD hS rfl (ix_b _ _) (by omega) (Nat.le_of_ble_eq_true rfl) rfl dX6_record_75 (fun H locs hP hD hS => ?_)
    refine lv_iinc (v := (nI (k + 1))) (lv' := [(1, .int (nI (k + 1))), (0, .ref (o 0))]) hx hb dX6_record_76 hl (k := 0) rfl (nI_1 _) (by decide) rfl (fun ls hl => ?_)
    refine lv_goto (tgt := 50) hx hb dX6_record_79 (by decide) ?_
    rw [cpO_s] at hP hD
    exact ih (k + 1) (by omega) ls _ _ hP hD hS (lv_sub hl [0, 1] rfl)

set_option maxHeartbeats 4000000 in
set_option maxRecDepth 100000 in
theorem c_X6_record_b (l : Launch) (g : wG) (o : Nat → Nat) (r : MS) (h5 : mM r = 5) : CtV l g 0 yX6_record cX6_record 2 none [.ref (o 0)] (MW g o r) (MW g o (mrec r)) := by
  intro sz
  refine x_enter (Qc := fun A => QV g A (MW g o (mrec r))) (by decide) (Nat.le_of_ble_eq_true rfl) ?_
  intro p e s m args below meth c X hr hlocks A hA hP hD hS ls hl
  obtain ⟨⟨hx, hb, hml, hown, hts⟩, hK, hN⟩ := id X
  have hl : lv_has ls 2 [(0, .ref (o 0))] := hl
  refine lv_aload_n hx hb dX6_record_0 rfl (lv_at hl 0 rfl) ?_
  refine x_get (v := .int (nI (mM r))) X 0 2 in_X6 hP rfl rfl (by decide) wF_X6_37 rfl rfl dX6_record_1 ?_
  refine lv_iconst (v := 5) hx hb dX6_record_4 (by decide) ?_
  refine lv_icmp_ne (tgt := 48) hx hb dX6_record_5 (by decide) (fun q9 => absurd (show (nI (mM r)) = 5 from (by rw [h5]; rfl)) q9) (fun c_1 => ?_)
  refine lv_iconst (v := 0) hx hb dX6_record_8 (by decide) ?_
  refine lv_istore_n (lv' := [(1, .int 0), (0, .ref (o 0))]) hx hb dX6_record_9 rfl hl (by decide) rfl (fun ls hl => ?_)
  suffices LQ10 : ∀ (n k : Nat), k + n = 192 → ∀ (ls : Array Slot) (H : Heap) (locs : List Loc), va_P g.1 vwCl (MW g o ((mZ r), (shF (mP r) k), (mK r), (mA r), (mB r), (mO r), (mM r), (mI r), (mY r), (mT r), (mS r), (mW r))) H → va_D A (MW g o ((mZ r), (shF (mP r) k), (mK r), (mA r), (mB r), (mO r), (mM r), (mI r), (mY r), (mT r), (mS r), (mW r))) → va_S A s.heap H locs → lv_has ls 2 [(1, .int (nI k)), (0, .ref (o 0))] → W p l e (rmD 0) s m args below meth c H locs 0 0 (MQ below (QV g A (MW g o (mrec r))) args s 0 0 A) (F0 m 10 ls []) from LQ10 192 0 rfl ls _ _ (by rw [shF_0]; exact hP) (by rw [shF_0]; exact hD) hS (lv_sub hl [0, 1] rfl)
  intro n
  induction n with
  | zero =>
    intro k hk ls H locs hP hD hS hl
    obtain rfl : k = 192 := by omega
    refine lv_iload_n hx hb dX6_record_10 rfl (lv_at hl 0 rfl) ?_
    refine lv_sipush (v := 192) hx hb dX6_record_11 (by decide) ?_
    refine lv_icmp_ge (tgt := 38) hx hb dX6_record_14 (by decide) (fun c_2 => ?_) (fun q9 => absurd (show 192 ≤ (nI 192) from (nI_le (a := 192) (by omega) (by omega))) (show ¬ (192 ≤ (nI 192)) from q9))
    refine lv_aload_n hx hb dX6_record_38 rfl (lv_at hl 1 rfl) ?_
    refine lv_dup hx hb dX6_record_39 rfl ?_
    refine x_get (v := .int (nI (mM r))) X 0 2 in_X6 hP rfl rfl (by decide) wF_X6_37 rfl rfl dX6_record_40 ?_
    refine lv_iconst (v := 1) hx hb dX6_record_43 (by decide) ?_
    refine lv_isub hx hb dX6_record_44 ?_
    refine W.eq (g2 := F0 m 45 ls [.int (nI 4), .ref (o 0)]) (by rw [h5]; rfl) ?_
    refine x_put (v := .int (nI 4)) (ty0 := tyX6) (ws2 := MW g o ((mZ r), (shF (mP r) 192), (mK r), (mA r), (mB r), (mO r), 4, (mI r), (mY r), (mT r), (mS r), (mW r))) X 0 2 in_X6 tyX6_ok nmX6 hP hD hS rfl rfl (by decide) wF_X6_37 rfl rfl rfl rfl (Nat.le_of_ble_eq_true rfl) rfl dX6_record_45 (fun H locs hP hD hS => ?_)
    refine lv_iconst (v := 0) hx hb dX6_record_48 (by decide) ?_
    refine lv_istore_n (lv' := [(1, .int 0), (0, .ref (o 0))]) hx hb dX6_record_49 rfl hl (by decide) rfl (fun ls hl => ?_)
    suffices LQ50 : ∀ (n k : Nat), k + n = 48 → ∀ (ls : Array Slot) (H : Heap) (locs : List Loc), va_P g.1 vwCl (MW g o ((mZ r), (cpO (mZ r) (shF (mP r) 192) (4 * 48) k), (mK r), (mA r), (mB r), (mO r), 4, (mI r), (mY r), (mT r), (mS r), (mW r))) H → va_D A (MW g o ((mZ r), (cpO (mZ r) (shF (mP r) 192) (4 * 48) k), (mK r), (mA r), (mB r), (mO r), 4, (mI r), (mY r), (mT r), (mS r), (mW r))) → va_S A s.heap H locs → lv_has ls 2 [(1, .int (nI k)), (0, .ref (o 0))] → W p l e (rmD 0) s m args below meth c H locs 0 0 (MQ below (QV g A (MW g o (mrec r))) args s 0 0 A) (F0 m 50 ls []) from LQ50 48 0 rfl ls _ _ (by rw [cpO_0]; exact hP) (by rw [cpO_0]; exact hD) hS (lv_sub hl [0, 1] rfl)
    intro n
    induction n with
    | zero =>
      intro k hk ls H locs hP hD hS hl
      obtain rfl : k = 48 := by omega
      refine lv_iload_n hx hb dX6_record_50 rfl (lv_at hl 0 rfl) ?_
      refine lv_bipush (v := 48) hx hb dX6_record_51 (by decide) ?_
      refine lv_icmp_ge (tgt := 82) hx hb dX6_record_53 (by decide) (fun c_3 => ?_) (fun q9 => absurd (show 48 ≤ (nI 48) from (nI_le (a := 48) (by omega) (by omega))) (show ¬ (48 ≤ (nI 48)) from q9))
      refine lv_aload_n hx hb dX6_record_82 rfl (lv_at hl 1 rfl) ?_
      refine lv_dup hx hb dX6_record_83 rfl ?_
      refine x_get (v := .int (nI 4)) X 0 2 in_X6 hP rfl rfl (by decide) wF_X6_37 rfl rfl dX6_record_84 ?_
      refine lv_iconst (v := 1) hx hb dX6_record_87 (by decide) ?_
      refine lv_iadd hx hb dX6_record_88 ?_
      refine W.eq (g2 := F0 m 89 ls [.int (nI (4 + 1)), .ref (o 0)]) (by rw [nI_1]) ?_
      refine x_put (v := .int (nI (4 + 1))) (ty0 := tyX6) (ws2 := MW g o ((mZ r), (cpO (mZ r) (shF (mP r) 192) (4 * 48) 48), (mK r), (mA r), (mB r), (mO r), (4 + 1), (mI r), (mY r), (mT r), (mS r), (mW r))) X 0 2 in_X6 tyX6_ok nmX6 hP hD hS rfl rfl (by decide) wF_X6_37 rfl rfl rfl rfl (Nat.le_of_ble_eq_true rfl) rfl dX6_record_89 (fun H locs hP hD hS => ?_)
      have E : (MW g o ((mZ r), (cpO (mZ r) (shF (mP r) 192) (4 * 48) 48), (mK r), (mA r), (mB r), (mO r), (4 + 1), (mI r), (mY r), (mT r), (mS r), (mW r)) : va_W) = MW g o (mrec r) := by unfold mrec rcP rcN; rw [if_pos h5, if_pos h5]
      exact x_vret X hr hlocks (pw E hP) (dw E hD) hS dX6_record_92
    | succ n ih =>
      intro k hk ls H locs hP hD hS hl
      refine lv_iload_n hx hb dX6_record_50 rfl (lv_at hl 0 rfl) ?_
      refine lv_bipush (v := 48) hx hb dX6_record_51 (by decide) ?_
      refine lv_icmp_ge (tgt := 82) hx hb dX6_record_53 (by decide) (fun q9 => absurd q9 (show ¬ 48 ≤ (nI k) from (nI_ge (b := 48) (by omega) (by decide)))) (fun c_4 => ?_)
      refine lv_aload_n hx hb dX6_record_56 rfl (lv_at hl 1 rfl) ?_
      refine x_get (v := .ref (o 2)) X 0 1 in_X6 hP rfl rfl (by decide) wF_X6_13 rfl rfl dX6_record_57 ?_
      refine lv_aload_n hx hb dX6_record_60 rfl (lv_at hl 1 rfl) ?_
      refine x_get (v := .int (nI 4)) X 0 2 in_X6 hP rfl rfl (by decide) wF_X6_37 rfl rfl dX6_record_61 ?_
      refine lv_bipush (v := 48) hx hb dX6_record_64 (by decide) ?_
      refine lv_imul hx hb dX6_record_66 ?_
      refine lv_iload_n hx hb dX6_record_67 rfl (lv_at hl 0 rfl) ?_
      refine lv_iadd hx hb dX6_record_68 ?_
      refine lv_aload_n hx hb dX6_record_69 rfl (lv_at hl 1 rfl) ?_
      refine x_get (v := .ref (o 1)) X 0 0 in_X6 hP rfl rfl (by decide) wF_X6_7 rfl rfl dX6_record_70 ?_
      refine lv_iload_n hx hb dX6_record_73 rfl (lv_at hl 0 rfl) ?_
      refine x_iald (v := ((mZ r) k)) X 1 k hP rfl rfl (by omega) (Nat.le_of_ble_eq_true rfl) rfl dX6_record_74 ?_
      refine x_iast (ws2 := MW g o ((mZ r), (upd (cpO (mZ r) (shF (mP r) 192) (4 * 48) k) (4 * 48 + k) ((mZ r) k)), (mK r), (mA r), (mB r), (mO r), 4, (mI r), (mY r), (mT r), (mS r), (mW r))) X 2 (4 * 48 + k) hP hD hS rfl (ix_b _ _) (by omega) (Nat.le_of_ble_eq_true rfl) rfl dX6_record_75 (fun H locs hP hD hS => ?_)
      refine lv_iinc (v := (nI (k + 1))) (lv' := [(1, .int (nI (k + 1))), (0, .ref (o 0))]) hx hb dX6_record_76 hl (k := 0) rfl (nI_1 _) (by decide) rfl (fun ls hl => ?_)
      refine lv_goto (tgt := 50) hx hb dX6_record_79 (by decide) ?_
      rw [cpO_s] at hP hD
      exact ih (k + 1) (by omega) ls _ _ hP hD hS (lv_sub hl [0, 1] rfl)
  | succ n ih =>
    intro k hk ls H locs hP hD hS hl
    refine lv_iload_n hx hb dX6_record_10 rfl (lv_at hl 0 rfl) ?_
    refine lv_sipush (v := 192) hx hb dX6_record_11 (by decide) ?_
    refine lv_icmp_ge (tgt := 38) hx hb dX6_record_14 (by decide) (fun q9 => absurd q9 (show ¬ 192 ≤ (nI k) from (nI_ge (b := 192) (by omega) (by decide)))) (fun c_5 => ?_)
    refine lv_aload_n hx hb dX6_record_17 rfl (lv_at hl 1 rfl) ?_
    refine x_get (v := .ref (o 2)) X 0 1 in_X6 hP rfl rfl (by decide) wF_X6_13 rfl rfl dX6_record_18 ?_
    refine lv_iload_n hx hb dX6_record_21 rfl (lv_at hl 0 rfl) ?_
    refine lv_aload_n hx hb dX6_record_22 rfl (lv_at hl 1 rfl) ?_
    refine x_get (v := .ref (o 2)) X 0 1 in_X6 hP rfl rfl (by decide) wF_X6_13 rfl rfl dX6_record_23 ?_
    refine lv_iload_n hx hb dX6_record_26 rfl (lv_at hl 0 rfl) ?_
    refine lv_bipush (v := 48) hx hb dX6_record_27 (by decide) ?_
    refine lv_iadd hx hb dX6_record_29 ?_
    refine x_iald (v := ((shF (mP r) k) (k + 48))) X 2 (k + 48) hP rfl (nI_add k 48) (by omega) (Nat.le_of_ble_eq_true rfl) rfl dX6_record_30 ?_
    refine x_iast (ws2 := MW g o ((mZ r), (upd (shF (mP r) k) k ((shF (mP r) k) (k + 48))), (mK r), (mA r), (mB r), (mO r), (mM r), (mI r), (mY r), (mT r), (mS r), (mW r))) X 2 k hP hD hS rfl rfl (by omega) (Nat.le_of_ble_eq_true rfl) rfl dX6_record_31 (fun H locs hP hD hS => ?_)
    refine lv_iinc (v := (nI (k + 1))) (lv' := [(1, .int (nI (k + 1))), (0, .ref (o 0))]) hx hb dX6_record_32 hl (k := 0) rfl (nI_1 _) (by decide) rfl (fun ls hl => ?_)
    refine lv_goto (tgt := 10) hx hb dX6_record_35 (by decide) ?_
    rw [shF_r, shF_s] at hP hD
    exact ih (k + 1) (by omega) ls _ _ hP hD hS (lv_sub hl [0, 1] rfl)

theorem c_X6_record (l : Launch) (g : wG) (o : Nat → Nat) (r : MS) (hm5 : mM r ≤ 5) : CtV l g 0 yX6_record cX6_record 2 none [.ref (o 0)] (MW g o r) (MW g o (mrec r)) := by
  by_cases h5 : mM r = 5
  · exact c_X6_record_b l g o r h5
  · exact c_X6_record_a l g o r hm5 h5
abbrev mund (r : MS) : MS := (fun j => mP r ((mM r - 1) * 48 + j), mP r, mK r, mA r, mB r, mO r, mM r - 1, r.2.2.2.2.2.2.2)
def mUndo (r : MS) : Int32 × MS := if mM r = 0 then (-1003, r) else (nI (mM r - 1), mund r)
set_option maxHeartbeats 4000000 in
set_option maxRecDepth 100000 in
theorem c_X6_undo_e (l : Launch) (g : wG) (o : Nat → Nat) (r : MS) (h0 : mM r = 0) : CtI l g 0 yX6_undo cX6_undo 2 (some .int) [.ref (o 0)] (MW g o r) ((mUndo r).1) (MW g o (mUndo r).2) := by
  intro sz
  refine x_enter (Qc := fun A => QI g A ((mUndo r).1) (MW g o (mUndo r).2)) (by decide) (Nat.le_of_ble_eq_true rfl) ?_
  intro p e s m args below meth c X hr hlocks A hA hP hD hS ls hl
  obtain ⟨⟨hx, hb, hml, hown, hts⟩, hK, hN⟩ := id X
  have hl : lv_has ls 2 [(0, .ref (o 0))] := hl
  refine lv_aload_n hx hb dX6_undo_0 rfl (lv_at hl 0 rfl) ?_
  refine x_get (v := .int (nI (mM r))) X 0 2 in_X6 hP rfl rfl (by decide) wF_X6_37 rfl rfl dX6_undo_1 ?_
  refine lv_if_ne (tgt := 11) hx hb dX6_undo_4 (by decide) (fun q9 => absurd (show (nI (mM r)) = 0 from (by rw [h0]; rfl)) q9) (fun c_1 => ?_)
  refine lv_sipush (v := (-1003)) hx hb dX6_undo_7 (by decide) ?_
  have E : (MW g o r : va_W) = MW g o (mUndo r).2 := by unfold mUndo; rw [if_pos h0]
  exact x_iret X hr hlocks (pw E hP) (dw E hD) hS (by unfold mUndo; rw [if_pos h0]) dX6_undo_10

set_option maxHeartbeats 4000000 in
set_option maxRecDepth 100000 in
theorem c_X6_undo_o (l : Launch) (g : wG) (o : Nat → Nat) (r : MS) (hm5 : mM r ≤ 5) (h0 : ¬ mM r = 0) : CtI l g 0 yX6_undo cX6_undo 2 (some .int) [.ref (o 0)] (MW g o r) ((mUndo r).1) (MW g o (mUndo r).2) := by
  intro sz
  refine x_enter (Qc := fun A => QI g A ((mUndo r).1) (MW g o (mUndo r).2)) (by decide) (Nat.le_of_ble_eq_true rfl) ?_
  intro p e s m args below meth c X hr hlocks A hA hP hD hS ls hl
  obtain ⟨⟨hx, hb, hml, hown, hts⟩, hK, hN⟩ := id X
  have hl : lv_has ls 2 [(0, .ref (o 0))] := hl
  refine lv_aload_n hx hb dX6_undo_0 rfl (lv_at hl 0 rfl) ?_
  refine x_get (v := .int (nI (mM r))) X 0 2 in_X6 hP rfl rfl (by decide) wF_X6_37 rfl rfl dX6_undo_1 ?_
  refine lv_if_ne (tgt := 11) hx hb dX6_undo_4 (by decide) (fun c_1 => ?_) (fun q9 => absurd (show (nI (mM r)) = 0 from q9) (show ¬ (nI (mM r)) = 0 from (nI_ne0 (by omega) (by omega))))
  refine lv_aload_n hx hb dX6_undo_11 rfl (lv_at hl 0 rfl) ?_
  refine lv_dup hx hb dX6_undo_12 rfl ?_
  refine x_get (v := .int (nI (mM r))) X 0 2 in_X6 hP rfl rfl (by decide) wF_X6_37 rfl rfl dX6_undo_13 ?_
  refine lv_iconst (v := 1) hx hb dX6_undo_16 (by decide) ?_
  refine lv_isub hx hb dX6_undo_17 ?_
  refine W.eq (g2 := F0 m 18 ls [.int (nI (mM r - 1)), .ref (o 0)]) (by rw [show nI (mM r) - 1 = nI (mM r - 1) from pk_sub (b := 1) (by omega)]) ?_
  refine x_put (v := .int (nI (mM r - 1))) (ty0 := tyX6) (ws2 := MW g o ((mZ r), (mP r), (mK r), (mA r), (mB r), (mO r), (mM r - 1), (mI r), (mY r), (mT r), (mS r), (mW r))) X 0 2 in_X6 tyX6_ok nmX6 hP hD hS rfl rfl (by decide) wF_X6_37 rfl rfl rfl rfl (Nat.le_of_ble_eq_true rfl) rfl dX6_undo_18 (fun H locs hP hD hS => ?_)
  refine lv_iconst (v := 0) hx hb dX6_undo_21 (by decide) ?_
  refine lv_istore_n (lv' := [(1, .int 0), (0, .ref (o 0))]) hx hb dX6_undo_22 rfl hl (by decide) rfl (fun ls hl => ?_)
  suffices LP23 : ∀ (n k : Nat), k + n = 48 → ∀ (ls : Array Slot) (H : Heap) (locs : List Loc), va_P g.1 vwCl (MW g o ((cpF (fun j => mP r ((mM r - 1) * 48 + j)) (mZ r) k), (mP r), (mK r), (mA r), (mB r), (mO r), (mM r - 1), (mI r), (mY r), (mT r), (mS r), (mW r))) H → va_D A (MW g o ((cpF (fun j => mP r ((mM r - 1) * 48 + j)) (mZ r) k), (mP r), (mK r), (mA r), (mB r), (mO r), (mM r - 1), (mI r), (mY r), (mT r), (mS r), (mW r))) → va_S A s.heap H locs → lv_has ls 2 [(1, .int (nI k)), (0, .ref (o 0))] → W p l e (rmD 0) s m args below meth c H locs 0 0 (MQ below (QI g A ((mUndo r).1) (MW g o (mUndo r).2)) args s 0 0 A) (F0 m 23 ls []) from LP23 48 0 rfl ls _ _ (by rw [cpF_0]; exact hP) (by rw [cpF_0]; exact hD) hS (lv_sub hl [0, 1] rfl)
  intro n
  induction n with
  | zero =>
    intro k hk ls H locs hP hD hS hl
    obtain rfl : k = 48 := by omega
    refine lv_iload_n hx hb dX6_undo_23 rfl (lv_at hl 0 rfl) ?_
    refine lv_bipush (v := 48) hx hb dX6_undo_24 (by decide) ?_
    refine lv_icmp_ge (tgt := 55) hx hb dX6_undo_26 (by decide) (fun c_2 => ?_) (fun q9 => absurd (show 48 ≤ (nI 48) from (nI_le (a := 48) (by omega) (by omega))) (show ¬ (48 ≤ (nI 48)) from q9))
    refine lv_aload_n hx hb dX6_undo_55 rfl (lv_at hl 1 rfl) ?_
    refine x_get (v := .int (nI (mM r - 1))) X 0 2 in_X6 hP rfl rfl (by decide) wF_X6_37 rfl rfl dX6_undo_56 ?_
    have hP2 : va_P g.1 vwCl (MW g o (mund r)) H := MW_ext (r := ((cpF (fun j => mP r ((mM r - 1) * 48 + j)) (mZ r) 48), (mP r), (mK r), (mA r), (mB r), (mO r), (mM r - 1), (mI r), (mY r), (mT r), (mS r), (mW r))) (r' := (mund r)) (fun j hj => cpF_in (f := fun j => mP r ((mM r - 1) * 48 + j)) (g := mZ r) hj) (fun j hj => rfl) (fun j hj => rfl) (fun j hj => rfl) rfl rfl rfl hP
    have E : (MW g o (mund r) : va_W) = MW g o (mUndo r).2 := by unfold mUndo; rw [if_neg h0]
    exact x_iret X hr hlocks (pw E hP2) (dw E (MW_extD _ _ hD)) hS (by unfold mUndo; rw [if_neg h0]) dX6_undo_59
  | succ n ih =>
    intro k hk ls H locs hP hD hS hl
    refine lv_iload_n hx hb dX6_undo_23 rfl (lv_at hl 0 rfl) ?_
    refine lv_bipush (v := 48) hx hb dX6_undo_24 (by decide) ?_
    refine lv_icmp_ge (tgt := 55) hx hb dX6_undo_26 (by decide) (fun q9 => absurd q9 (show ¬ 48 ≤ (nI k) from (nI_ge (b := 48) (by omega) (by decide)))) (fun c_3 => ?_)
    refine lv_aload_n hx hb dX6_undo_29 rfl (lv_at hl 1 rfl) ?_
    refine x_get (v := .ref (o 1)) X 0 0 in_X6 hP rfl rfl (by decide) wF_X6_7 rfl rfl dX6_undo_30 ?_
    refine lv_iload_n hx hb dX6_undo_33 rfl (lv_at hl 0 rfl) ?_
    refine lv_aload_n hx hb dX6_undo_34 rfl (lv_at hl 1 rfl) ?_
    refine x_get (v := .ref (o 2)) X 0 1 in_X6 hP rfl rfl (by decide) wF_X6_13 rfl rfl dX6_undo_35 ?_
    refine lv_aload_n hx hb dX6_undo_38 rfl (lv_at hl 1 rfl) ?_
    refine x_get (v := .int (nI (mM r - 1))) X 0 2 in_X6 hP rfl rfl (by decide) wF_X6_37 rfl rfl dX6_undo_39 ?_
    refine lv_bipush (v := 48) hx hb dX6_undo_42 (by decide) ?_
    refine lv_imul hx hb dX6_undo_44 ?_
    refine lv_iload_n hx hb dX6_undo_45 rfl (lv_at hl 0 rfl) ?_
    refine lv_iadd hx hb dX6_undo_46 ?_
    refine x_iald (v := ((mP r) ((mM r - 1) * 48 + k))) X 2 ((mM r - 1) * 48 + k) hP rfl (ix_b _ _) (by omega) (Nat.le_of_ble_eq_true rfl) rfl dX6_undo_47 ?_
    refine x_iast (ws2 := MW g o ((upd (cpF (fun j => mP r ((mM r - 1) * 48 + j)) (mZ r) k) k ((mP r) ((mM r - 1) * 48 + k))), (mP r), (mK r), (mA r), (mB r), (mO r), (mM r - 1), (mI r), (mY r), (mT r), (mS r), (mW r))) X 1 k hP hD hS rfl rfl (by omega) (Nat.le_of_ble_eq_true rfl) rfl dX6_undo_48 (fun H locs hP hD hS => ?_)
    refine lv_iinc (v := (nI (k + 1))) (lv' := [(1, .int (nI (k + 1))), (0, .ref (o 0))]) hx hb dX6_undo_49 hl (k := 0) rfl (nI_1 _) (by decide) rfl (fun ls hl => ?_)
    refine lv_goto (tgt := 23) hx hb dX6_undo_52 (by decide) ?_
    rw [cpF_s] at hP hD
    exact ih (k + 1) (by omega) ls _ _ hP hD hS (lv_sub hl [0, 1] rfl)

theorem c_X6_undo (l : Launch) (g : wG) (o : Nat → Nat) (r : MS) (hm5 : mM r ≤ 5) : CtI l g 0 yX6_undo cX6_undo 2 (some .int) [.ref (o 0)] (MW g o r) ((mUndo r).1) (MW g o (mUndo r).2) := by
  by_cases h0 : mM r = 0
  · exact c_X6_undo_e l g o r h0
  · exact c_X6_undo_o l g o r hm5 h0
def mRestore (r : MS) : Int32 × MS := if mI r = 0 then (-1003, r) else (mK r 0, mz (mrec r) (mK r))
set_option maxHeartbeats 4000000 in
set_option maxRecDepth 100000 in
theorem c_X6_restore (l : Launch) (g : wG) (o : Nat → Nat) (r : MS) (hm5 : mM r ≤ 5) : CtI l g 1 yX6_restore cX6_restore 2 (some .int) [.ref (o 0)] (MW g o r) ((mRestore r).1) (MW g o (mRestore r).2) := by
  intro sz
  refine x_enter (Qc := fun A => QI g A ((mRestore r).1) (MW g o (mRestore r).2)) (by decide) (Nat.le_of_ble_eq_true rfl) ?_
  intro p e s m args below meth c X hr hlocks A hA hP hD hS ls hl
  obtain ⟨⟨hx, hb, hml, hown, hts⟩, hK, hN⟩ := id X
  have hl : lv_has ls 2 [(0, .ref (o 0))] := hl
  refine lv_aload_n hx hb dX6_restore_0 rfl (lv_at hl 0 rfl) ?_
  refine x_get (v := .int (mI r)) X 0 4 in_X6 hP rfl rfl (by decide) wF_X6_41 rfl rfl dX6_restore_1 ?_
  refine lv_if_ne (tgt := 11) hx hb dX6_restore_4 (by decide) (fun (c_1 : ¬ (mI r) = 0) => ?_) (fun (c_1 : (mI r) = 0) => ?_)
  · refine lv_aload_n hx hb dX6_restore_11 rfl (lv_at hl 0 rfl) ?_
    refine x_goV (wn := MW g o (mrec r)) (x_rV (As := []) X (c_X6_record l g o r hm5  _) yf_X6_record yi_X6_record wM_X6_45 ⟨Nat.le_of_ble_eq_true rfl, Nat.le_of_ble_eq_true rfl⟩ hP hD (p_all _) 0 rfl rfl hl rfl rfl (Nat.le_of_ble_eq_true rfl) dX6_restore_12 ⟨Nat.zero_le _, Nat.zero_le _⟩) hP hD hS hA (p_all _) (p_back _) (fun H locs hP hD hS => ?_)
    refine lv_iconst (v := 0) hx hb dX6_restore_15 (by decide) ?_
    refine lv_istore_n (lv' := [(1, .int 0), (0, .ref (o 0))]) hx hb dX6_restore_16 rfl hl (by decide) rfl (fun ls hl => ?_)
    suffices LP17 : ∀ (n k : Nat), k + n = 48 → ∀ (ls : Array Slot) (H : Heap) (locs : List Loc), va_P g.1 vwCl (MW g o (mz (mrec r) (cpF (mK (mrec r)) (mZ (mrec r)) k))) H → va_D A (MW g o (mz (mrec r) (cpF (mK (mrec r)) (mZ (mrec r)) k))) → va_S A s.heap H locs → lv_has ls 2 [(1, .int (nI k)), (0, .ref (o 0))] → W p l e (rmD 1) s m args below meth c H locs 0 0 (MQ below (QI g A ((mRestore r).1) (MW g o (mRestore r).2)) args s 0 0 A) (F0 m 17 ls []) from LP17 48 0 rfl ls _ _ (by rw [cpF_0]; exact hP) (by rw [cpF_0]; exact hD) hS (lv_sub hl [0, 1] rfl)
    intro n
    induction n with
    | zero =>
      intro k hk ls H locs hP hD hS hl
      obtain rfl : k = 48 := by omega
      refine lv_iload_n hx hb dX6_restore_17 rfl (lv_at hl 0 rfl) ?_
      refine lv_bipush (v := 48) hx hb dX6_restore_18 (by decide) ?_
      refine lv_icmp_ge (tgt := 41) hx hb dX6_restore_20 (by decide) (fun c_2 => ?_) (fun q9 => absurd (show 48 ≤ (nI 48) from (nI_le (a := 48) (by omega) (by omega))) (show ¬ (48 ≤ (nI 48)) from q9))
      refine lv_aload_n hx hb dX6_restore_41 rfl (lv_at hl 1 rfl) ?_
      refine x_get (v := .ref (o 1)) X 0 0 in_X6 hP rfl rfl (by decide) wF_X6_7 rfl rfl dX6_restore_42 ?_
      refine lv_iconst (v := 0) hx hb dX6_restore_45 (by decide) ?_
      refine x_iald (v := ((cpF (mK (mrec r)) (mZ (mrec r)) 48) 0)) X 1 0 hP rfl rfl (by decide) (Nat.le_of_ble_eq_true rfl) rfl dX6_restore_46 ?_
      have hP2 : va_P g.1 vwCl (MW g o (mz (mrec r) (mK r))) H := MW_ext (r := (mz (mrec r) (cpF (mK (mrec r)) (mZ (mrec r)) 48))) (r' := (mz (mrec r) (mK r))) (fun j hj => cpF_in hj) (fun j hj => rfl) (fun j hj => rfl) (fun j hj => rfl) rfl rfl rfl hP
      have E : (MW g o (mz (mrec r) (mK r)) : va_W) = MW g o (mRestore r).2 := by unfold mRestore; rw [if_neg c_1]
      exact x_iret X hr hlocks (pw E hP2) (dw E (MW_extD _ _ hD)) hS (by unfold mRestore; rw [if_neg c_1]; rfl) dX6_restore_47
    | succ n ih =>
      intro k hk ls H locs hP hD hS hl
      refine lv_iload_n hx hb dX6_restore_17 rfl (lv_at hl 0 rfl) ?_
      refine lv_bipush (v := 48) hx hb dX6_restore_18 (by decide) ?_
      refine lv_icmp_ge (tgt := 41) hx hb dX6_restore_20 (by decide) (fun q9 => absurd q9 (show ¬ 48 ≤ (nI k) from (nI_ge (b := 48) (by omega) (by decide)))) (fun c_3 => ?_)
      refine lv_aload_n hx hb dX6_restore_23 rfl (lv_at hl 1 rfl) ?_
      refine x_get (v := .ref (o 1)) X 0 0 in_X6 hP rfl rfl (by decide) wF_X6_7 rfl rfl dX6_restore_24 ?_
      refine lv_iload_n hx hb dX6_restore_27 rfl (lv_at hl 0 rfl) ?_
      refine lv_aload_n hx hb dX6_restore_28 rfl (lv_at hl 1 rfl) ?_
      refine x_get (v := .ref (o 3)) X 0 3 in_X6 hP rfl rfl (by decide) wF_X6_16 rfl rfl dX6_restore_29 ?_
      refine lv_iload_n hx hb dX6_restore_32 rfl (lv_at hl 0 rfl) ?_
      refine x_iald (v := ((mK (mrec r)) k)) X 3 k hP rfl rfl (by omega) (Nat.le_of_ble_eq_true rfl) rfl dX6_restore_33 ?_
      refine x_iast (ws2 := MW g o (mz (mrec r) (upd (cpF (mK (mrec r)) (mZ (mrec r)) k) k ((mK (mrec r)) k)))) X 1 k hP hD hS rfl rfl (by omega) (Nat.le_of_ble_eq_true rfl) rfl dX6_restore_34 (fun H locs hP hD hS => ?_)
      refine lv_iinc (v := (nI (k + 1))) (lv' := [(1, .int (nI (k + 1))), (0, .ref (o 0))]) hx hb dX6_restore_35 hl (k := 0) rfl (nI_1 _) (by decide) rfl (fun ls hl => ?_)
      refine lv_goto (tgt := 17) hx hb dX6_restore_38 (by decide) ?_
      rw [cpF_s] at hP hD
      exact ih (k + 1) (by omega) ls _ _ hP hD hS (lv_sub hl [0, 1] rfl)
  · refine lv_sipush (v := (-1003)) hx hb dX6_restore_7 (by decide) ?_
    have E : (MW g o r : va_W) = MW g o (mRestore r).2 := by unfold mRestore; rw [if_pos c_1]
    exact x_iret X hr hlocks (pw E hP) (dw E hD) hS (by unfold mRestore; rw [if_pos c_1]) dX6_restore_10

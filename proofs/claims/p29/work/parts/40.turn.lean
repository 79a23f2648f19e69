/-! PURE PART: one face, the shaft, on the class's row -/
/-- the class's numbers are the reference's -/
def eqT (x z : RI) : Prop := ∀ i, (i = 0 ∨ (4 ≤ i ∧ i < 36)) → x i = z i
theorem eqT.up {x z : RI} (h : eqT x z) (k : Nat) {v v' : Int32} (hv : v = v') : eqT (upd x k v) (upd z k v') := fun i hi => by
  subst hv
  unfold upd
  by_cases c : i = k
  · rw [if_pos c, if_pos c]
  · rw [if_neg c, if_neg c]; exact h i hi
/-- one face's invariant -/
def F1 (z : RI) (o : Nat) : Prop := (∃ d, d < 720 ∧ z o = nI d) ∧ (∃ w, w < 10 ∧ z (o + 3) = nI w) ∧ (z (o + 5) = 0 ∨ z (o + 5) = 1)
def FZ (z : RI) : Prop := F1 z 8 ∧ F1 z 15 ∧ F1 z 22 ∧ F1 z 29
theorem F1.mv {z z' : RI} {o : Nat} (h : F1 z o) (h0 : z' o = z o) (h3 : z' (o + 3) = z (o + 3)) (h5 : z' (o + 5) = z (o + 5)) : F1 z' o := by
  unfold F1; rw [h0, h3, h5]; exact h
theorem up_id (z : RI) (k : Nat) : upd z k (z k) = z := by
  funext i
  unfold upd
  by_cases h : i = k
  · subst h; exact if_pos rfl
  · exact if_neg h
/-- a turn leaves the rest -/
theorem turnC_n {ld : Int32} {o i : Nat} {z : RI} (h0 : ¬ i = o) (h2 : ¬ i = o + 2) (h3 : ¬ i = o + 3) (h4 : ¬ i = o + 4) (h6 : ¬ i = o + 6) : turnC ld o z i = z i := by
  unfold turnC
  rw [up_n h6, up_n h4, up_n h3, up_n h2, up_n h0]
theorem turnC_o {ld : Int32} {o i : Nat} {z : RI} (h : i < o ∨ o + 7 ≤ i) : turnC ld o z i = z i := turnC_n (by omega) (by omega) (by omega) (by omega) (by omega)
theorem turnC_F {ld : Int32} {o : Nat} {z : RI} (h : F1 z o) : F1 (turnC ld o z) o := by
  obtain ⟨⟨d, hd, ed⟩, ⟨w, hw, ew⟩, hb⟩ := h
  have e0 : turnC ld o z o = fpD ld (z o) (z (o + 1)) (z (o + 2)) (z (o + 3)) := by
    unfold turnC
    rw [up_n (by omega), up_n (by omega), up_n (by omega), up_n (by omega), up_s]
  have e3 : turnC ld o z (o + 3) = fpW ld (z (o + 1)) (z (o + 2)) (z (o + 3)) (z (o + 4)) := by
    unfold turnC
    rw [up_n (by omega), up_n (by omega), up_s]
  have e5 : turnC ld o z (o + 5) = z (o + 5) := turnC_n (by omega) (by omega) (by omega) (by omega) (by omega)
  refine ⟨?_, ?_, by rw [e5]; exact hb⟩
  · rw [e0]
    unfold fpD
    split
    · rw [ed, nI_1]
      exact ⟨(d + 1) % 720, Nat.mod_lt _ (by decide), za_r720 (by omega)⟩
    · exact ⟨d, hd, ed⟩
  · rw [e3]
    unfold fpW
    split
    · exact ⟨w, hw, ew⟩
    · unfold slW
      split
      · rw [ew]; exact (za_worn w hw).2
      · exact ⟨w, hw, ew⟩
theorem turnC_eq {x z : RI} {ld : Int32} {o : Nat} (h : eqT x z) (ho : 8 ≤ o) (ho2 : o + 6 < 36) : eqT (turnC ld o x) (turnC ld o z) ∧ turnR ld o x = turnR ld o z := by
  have e0 := h o (by omega)
  have e1 := h (o + 1) (by omega)
  have e2 := h (o + 2) (by omega)
  have e3 := h (o + 3) (by omega)
  have e4 := h (o + 4) (by omega)
  have e5 := h (o + 5) (by omega)
  have e6 := h (o + 6) (by omega)
  refine ⟨?_, ?_⟩
  · unfold turnC
    rw [e0, e1, e2, e3, e4, e5, e6]
    exact ((((h.up _ rfl).up _ rfl).up _ rfl).up _ rfl).up _ rfl
  · unfold turnR
    rw [e0, e1, e2, e3, e5]
theorem FZ.turn {z : RI} {ld : Int32} {o : Nat} (h : FZ z) (ho : o = 8 ∨ o = 15 ∨ o = 22 ∨ o = 29) : FZ (turnC ld o z) := by
  obtain ⟨h1, h2, h3, h4⟩ := h
  rcases ho with rfl | rfl | rfl | rfl
  · exact ⟨turnC_F h1, h2.mv (turnC_o (by omega)) (turnC_o (by omega)) (turnC_o (by omega)), h3.mv (turnC_o (by omega)) (turnC_o (by omega)) (turnC_o (by omega)), h4.mv (turnC_o (by omega)) (turnC_o (by omega)) (turnC_o (by omega))⟩
  · exact ⟨h1.mv (turnC_o (by omega)) (turnC_o (by omega)) (turnC_o (by omega)), turnC_F h2, h3.mv (turnC_o (by omega)) (turnC_o (by omega)) (turnC_o (by omega)), h4.mv (turnC_o (by omega)) (turnC_o (by omega)) (turnC_o (by omega))⟩
  · exact ⟨h1.mv (turnC_o (by omega)) (turnC_o (by omega)) (turnC_o (by omega)), h2.mv (turnC_o (by omega)) (turnC_o (by omega)) (turnC_o (by omega)), turnC_F h3, h4.mv (turnC_o (by omega)) (turnC_o (by omega)) (turnC_o (by omega))⟩
  · exact ⟨h1.mv (turnC_o (by omega)) (turnC_o (by omega)) (turnC_o (by omega)), h2.mv (turnC_o (by omega)) (turnC_o (by omega)) (turnC_o (by omega)), h3.mv (turnC_o (by omega)) (turnC_o (by omega)) (turnC_o (by omega)), turnC_F h4⟩
theorem FZ.up {z : RI} {k : Nat} {v : Int32} (h : FZ z) (hk : k < 8 ∨ 36 ≤ k) : FZ (upd z k v) := by
  obtain ⟨h1, h2, h3, h4⟩ := h
  exact ⟨h1.mv (up_n (by omega)) (up_n (by omega)) (up_n (by omega)), h2.mv (up_n (by omega)) (up_n (by omega)) (up_n (by omega)), h3.mv (up_n (by omega)) (up_n (by omega)) (up_n (by omega)), h4.mv (up_n (by omega)) (up_n (by omega)) (up_n (by omega))⟩
/-- the settings, by their own numbers -/
def sgR (z : RI) : RI := fun k => z (1 + k)
theorem mi4_n {ld : Int32} {z : RI} {i : Nat} (h : i < 8 ∨ 36 ≤ i) : mi4 ld z i = z i := by
  unfold mi4
  rw [turnC_o (by omega), turnC_o (by omega), turnC_o (by omega), turnC_o (by omega)]
theorem shC_eq {x z : RI} {sg sg' : RI} (h : eqT x z) (h0 : sg 0 = sg' 0) (h2 : sg 2 = sg' 2) : eqT (shC sg x) (shC sg' z) := by
  have e4 := h 4 (by omega)
  have e5 := h 5 (by omega)
  have e8 := h 8 (by omega)
  have e11 := h 11 (by omega)
  have e15 := h 15 (by omega)
  have e18 := h 18 (by omega)
  have e22 := h 22 (by omega)
  have e25 := h 25 (by omega)
  have e29 := h 29 (by omega)
  have e32 := h 32 (by omega)
  have es : shS sg x = shS sg' z := by unfold shS; rw [e4, h0, e11, e18, e25, e32]
  unfold shC
  rw [es, h2, e5, e8, e15, e22, e29]
  exact (((((h.up _ rfl).up _ rfl).up _ rfl).up _ rfl).up _ rfl).up _ rfl
theorem shC_n {sg z : RI} {i : Nat} (h4 : ¬ i = 4) (h5 : ¬ i = 5) (h8 : ¬ i = 8) (h15 : ¬ i = 15) (h22 : ¬ i = 22) (h29 : ¬ i = 29) : shC sg z i = z i := by
  unfold shC
  rw [up_n h29, up_n h22, up_n h15, up_n h8, up_n h5, up_n h4]
theorem shC_F {sg z : RI} (h : FZ z) : FZ (shC sg z) := by
  have n3 : ∀ o, (o = 8 ∨ o = 15 ∨ o = 22 ∨ o = 29) → shC sg z (o + 3) = z (o + 3) ∧ shC sg z (o + 5) = z (o + 5) := by
    intro o ho
    exact ⟨shC_n (by omega) (by omega) (by omega) (by omega) (by omega) (by omega), shC_n (by omega) (by omega) (by omega) (by omega) (by omega) (by omega)⟩
  have gd : ∀ (v : Int32) (b : Prop) [Decidable b], (∃ d, d < 720 ∧ v = nI d) → ∃ d, d < 720 ∧ (if b then gbD v else v) = nI d := by
    intro v b _ hv
    obtain ⟨d, hd, rfl⟩ := hv
    split
    · exact za_gb hd
    · exact ⟨d, hd, rfl⟩
  obtain ⟨h1, h2, h3, h4⟩ := h
  have p8 : shC sg z 8 = if sg 2 ≤ shS sg z then gbD (z 8) else z 8 := by
    unfold shC; rw [up_n (by omega), up_n (by omega), up_n (by omega), up_s]
  have p15 : shC sg z 15 = if sg 2 ≤ shS sg z then gbD (z 15) else z 15 := by
    unfold shC; rw [up_n (by omega), up_n (by omega), up_s]
  have p22 : shC sg z 22 = if sg 2 ≤ shS sg z then gbD (z 22) else z 22 := by
    unfold shC; rw [up_n (by omega), up_s]
  have p29 : shC sg z 29 = if sg 2 ≤ shS sg z then gbD (z 29) else z 29 := by
    unfold shC; rw [up_s]
  refine ⟨⟨?_, ?_⟩, ⟨?_, ?_⟩, ⟨?_, ?_⟩, ⟨?_, ?_⟩⟩
  · rw [p8]; exact gd _ _ h1.1
  · rw [(n3 8 (by omega)).1, (n3 8 (by omega)).2]; exact h1.2
  · rw [p15]; exact gd _ _ h2.1
  · rw [(n3 15 (by omega)).1, (n3 15 (by omega)).2]; exact h2.2
  · rw [p22]; exact gd _ _ h3.1
  · rw [(n3 22 (by omega)).1, (n3 22 (by omega)).2]; exact h3.2
  · rw [p29]; exact gd _ _ h4.1
  · rw [(n3 29 (by omega)).1, (n3 29 (by omega)).2]; exact h4.2
theorem up_up (z : RI) (k : Nat) (v w : Int32) : upd (upd z k v) k w = upd z k w := by
  funext i
  by_cases h : i = k
  · rw [h, up_s, up_s]
  · rw [up_n h, up_n h, up_n h]
/-! the law's rows as one -/
def zc (t f k : RI) : RI := fun i => if i < 8 then t i else if i < 36 then f (i - 8) else k (i - 36)
theorem zc_t {t f k : RI} {i : Nat} (h : i < 8) : zc t f k i = t i := if_pos h
theorem zc_f {t f k : RI} {i : Nat} (h : i < 28) : zc t f k (8 + i) = f i := by
  unfold zc; rw [if_neg (by omega), if_pos (by omega)]; exact congrArg f (by omega)
theorem zc_k {t f k : RI} {i : Nat} : zc t f k (36 + i) = k i := by
  unfold zc; rw [if_neg (by omega), if_neg (by omega)]; exact congrArg k (by omega)
theorem zc_ut {t f k : RI} {i : Nat} {v : Int32} (h : i < 8) : zc (upd t i v) f k = upd (zc t f k) i v := by
  funext j
  by_cases e : j = i
  · rw [e, up_s, zc_t h, up_s]
  · rw [up_n e]; unfold zc; rw [up_n e]
theorem zc_uf {t f k : RI} {i : Nat} {v : Int32} (h : i < 28) : zc t (upd f i v) k = upd (zc t f k) (8 + i) v := by
  funext j
  by_cases e : j = 8 + i
  · rw [e, up_s, zc_f h, up_s]
  · rw [up_n e]; unfold zc
    by_cases g : j < 8
    · rw [if_pos g, if_pos g]
    · rw [if_neg g, if_neg g]
      by_cases g2 : j < 36
      · rw [if_pos g2, if_pos g2, up_n (by omega)]
      · rw [if_neg g2, if_neg g2]
theorem zc_uk {t f k : RI} {i : Nat} {v : Int32} : zc t f (upd k i v) = upd (zc t f k) (36 + i) v := by
  funext j
  by_cases e : j = 36 + i
  · rw [e, up_s, zc_k, up_s]
  · rw [up_n e]; unfold zc
    by_cases g : j < 8
    · rw [if_pos g, if_pos g]
    · rw [if_neg g, if_neg g]
      by_cases g2 : j < 36
      · rw [if_pos g2, if_pos g2]
      · rw [if_neg g2, if_neg g2, up_n (by omega)]
theorem zc_turn {t f k : RI} {ld : Int32} {o : Nat} (h : o + 6 < 28) : zc t (turnC ld o f) k = turnC ld (8 + o) (zc t f k) ∧ turnR ld o f = turnR ld (8 + o) (zc t f k) := by
  have e0 : zc t f k (8 + o) = f o := zc_f (by omega)
  have e1 : zc t f k (8 + o + 1) = f (o + 1) := zc_f (i := o + 1) (by omega)
  have e2 : zc t f k (8 + o + 2) = f (o + 2) := zc_f (i := o + 2) (by omega)
  have e3 : zc t f k (8 + o + 3) = f (o + 3) := zc_f (i := o + 3) (by omega)
  have e4 : zc t f k (8 + o + 4) = f (o + 4) := zc_f (i := o + 4) (by omega)
  have e5 : zc t f k (8 + o + 5) = f (o + 5) := zc_f (i := o + 5) (by omega)
  have e6 : zc t f k (8 + o + 6) = f (o + 6) := zc_f (i := o + 6) (by omega)
  refine ⟨?_, ?_⟩
  · unfold turnC
    rw [e0, e1, e2, e3, e4, e5, e6, zc_uf (by omega), zc_uf (by omega), zc_uf (by omega), zc_uf (by omega), zc_uf (by omega)]
    rfl
  · unfold turnR
    rw [e0, e1, e2, e3, e5]
/-- the law's turn is the class's -/
theorem up_chA (y : RI) (o : Nat) (D S T : Int32) : upd (upd (upd y (o + 2) S) o D) (o + 6) T = upd (upd (upd (upd (upd y o D) (o + 2) S) (o + 3) (y (o + 3))) (o + 4) (y (o + 4))) (o + 6) T := by
  funext i
  by_cases h6 : i = o + 6
  · rw [h6, up_s, up_s]
  rw [up_n h6, up_n h6]
  by_cases h4 : i = o + 4
  · rw [h4, up_n (by omega), up_n (by omega), up_s]
  rw [up_n h4]
  by_cases h3 : i = o + 3
  · rw [h3, up_n (by omega), up_n (by omega), up_s]
  rw [up_n h3]
  by_cases h2 : i = o + 2
  · rw [h2, up_n (by omega), up_s, up_s]
  rw [up_n h2]
  by_cases h0 : i = o
  · rw [h0, up_s, up_s]
  rw [up_n h0, up_n h0, up_n h2]
theorem up_chB (y : RI) (o : Nat) (S0 S W L : Int32) : upd (upd (upd (upd y (o + 2) S0) (o + 2) S) (o + 4) L) (o + 3) W = upd (upd (upd (upd (upd y o (y o)) (o + 2) S) (o + 3) W) (o + 4) L) (o + 6) (y (o + 6)) := by
  rw [up_up]
  funext i
  by_cases h6 : i = o + 6
  · rw [h6, up_n (by omega), up_n (by omega), up_n (by omega), up_s]
  rw [up_n h6]
  by_cases h4 : i = o + 4
  · rw [h4, up_n (by omega), up_s, up_s]
  rw [up_n h4]
  by_cases h3 : i = o + 3
  · rw [h3, up_s, up_s]
  rw [up_n h3, up_n h3, up_n h4]
  by_cases h2 : i = o + 2
  · rw [h2, up_s, up_s]
  rw [up_n h2, up_n h2]
  by_cases h0 : i = o
  · rw [h0, up_s]
  rw [up_n h0]
theorem tl_eq {ld : Int32} {o : Nat} {y : RI} {q : Int32} (h : F1 y o) : turnL ld o y q = (turnC ld o y, q + turnR ld o y) := by
  obtain ⟨⟨d, hd, ed⟩, ⟨w, hw, ew⟩, hb⟩ := h
  have s0 : tlS ld o y o = y o := up_n (by omega)
  have s1 : tlS ld o y (o + 1) = y (o + 1) := up_n (by omega)
  have s2 : tlS ld o y (o + 2) = y (o + 2) + (ld + y (o + 3)) := up_s _ _ _
  have s3 : tlS ld o y (o + 3) = y (o + 3) := up_n (by omega)
  have s4 : tlS ld o y (o + 4) = y (o + 4) := up_n (by omega)
  have s5 : tlS ld o y (o + 5) = y (o + 5) := up_n (by omega)
  have s6 : tlS ld o y (o + 6) = y (o + 6) := up_n (by omega)
  by_cases hs : y (o + 2) + (ld + y (o + 3)) < 10 * y (o + 1)
  · have hc : ¬ 10 * tlS ld o y (o + 1) ≤ tlS ld o y (o + 2) := by rw [s1, s2]; exact Int32.not_le.mpr hs
    have eD : fpD ld (y o) (y (o + 1)) (y (o + 2)) (y (o + 3)) = jrem (y o + 1) 720 := if_pos hs
    have eS : fpS ld (y (o + 1)) (y (o + 2)) (y (o + 3)) = y (o + 2) + (ld + y (o + 3)) := if_pos hs
    have eW : fpW ld (y (o + 1)) (y (o + 2)) (y (o + 3)) (y (o + 4)) = y (o + 3) := if_pos hs
    have eL : fpL ld (y (o + 1)) (y (o + 2)) (y (o + 3)) (y (o + 4)) = y (o + 4) := if_pos hs
    have hn : jrem (y o + 1) 720 = nI ((d + 1) % 720) := by rw [ed, nI_1]; exact za_r720 (by omega)
    have hl : (d + 1) % 720 < 720 := Nat.mod_lt _ (by decide)
    have hN : (if tlS ld o y o = 719 then 0 else tlS ld o y o + 1) = nI ((d + 1) % 720) := by
      rw [s0, ed]
      by_cases g : d = 719
      · subst g; rw [if_pos (by decide)]; decide
      · have g2 : ¬ nI d = 719 := fun w9 => g ((nI_eq (b := 719) (by omega) (by decide)).mp w9)
        rw [if_neg g2, nI_1]; exact congrArg nI (by omega)
    have d0 : tlD ld o y o = nI ((d + 1) % 720) := by unfold tlD; rw [up_s]; exact hN
    have d5 : tlD ld o y (o + 5) = y (o + 5) := by unfold tlD; rw [up_n (by omega)]; exact s5
    have d6 : tlD ld o y (o + 6) = y (o + 6) := by unfold tlD; rw [up_n (by omega)]; exact s6
    have eN : tlN o (tlD ld o y) = if y (o + 5) = 0 then 0 else if jrem (jrem (y o + 1) 720) 60 = 0 then strC (jrem (y o + 1) 720) else 0 := by
      unfold tlN
      rw [d5, d0, hn, za_r60 (by omega)]
      by_cases g5 : y (o + 5) = 0
      · rw [if_pos g5, if_pos g5]
      rw [if_neg g5, if_neg g5]
      by_cases g : (d + 1) % 720 % 60 = 0
      · rw [g, if_pos (show nI 0 ≤ 0 from by decide), if_pos (show nI 0 = 0 from by decide)]; rfl
      · rw [if_neg (nI_nle (by omega) (by omega)), if_neg (nI_ne0 (by omega) (by omega))]
    have eT : fpT ld (y o) (y (o + 1)) (y (o + 2)) (y (o + 3)) (y (o + 5)) (y (o + 6)) = y (o + 6) + tlN o (tlD ld o y) := by
      rw [eN]; unfold fpT; rw [if_pos hs]
      by_cases g5 : y (o + 5) = 0
      · rw [if_pos g5, if_pos g5, Int32.add_zero]
      rw [if_neg g5, if_neg g5]
      by_cases g : jrem (jrem (y o + 1) 720) 60 = 0
      · rw [if_pos g, if_pos g]
      · rw [if_neg g, if_neg g, Int32.add_zero]
    have eR : turnR ld o y = tlN o (tlD ld o y) := by
      rw [eN]; unfold turnR fpR; rw [if_pos hs]
    unfold turnL
    rw [if_neg hc, eR]
    refine Prod.ext ?_ rfl
    show upd (tlD ld o y) (o + 6) (tlD ld o y (o + 6) + tlN o (tlD ld o y)) = turnC ld o y
    rw [d6, ← eT]
    unfold turnC
    rw [eD, eS, eW, eL]
    unfold tlD tlS
    rw [show (if upd y (o + 2) (y (o + 2) + (ld + y (o + 3))) o = 719 then 0 else upd y (o + 2) (y (o + 2) + (ld + y (o + 3))) o + 1) = jrem (y o + 1) 720 from hN.trans hn.symm]
    exact up_chA y o _ _ _
  · have hc : 10 * tlS ld o y (o + 1) ≤ tlS ld o y (o + 2) := by rw [s1, s2]; exact Int32.not_lt.mp hs
    have eD : fpD ld (y o) (y (o + 1)) (y (o + 2)) (y (o + 3)) = y o := if_neg hs
    have eS : fpS ld (y (o + 1)) (y (o + 2)) (y (o + 3)) = y (o + 2) + (ld + y (o + 3)) - 10 * y (o + 1) := if_neg hs
    have eW : fpW ld (y (o + 1)) (y (o + 2)) (y (o + 3)) (y (o + 4)) = slW (y (o + 3)) (y (o + 4)) := if_neg hs
    have eL : fpL ld (y (o + 1)) (y (o + 2)) (y (o + 3)) (y (o + 4)) = y (o + 4) + 1 := if_neg hs
    have eT : fpT ld (y o) (y (o + 1)) (y (o + 2)) (y (o + 3)) (y (o + 5)) (y (o + 6)) = y (o + 6) := if_neg hs
    have eR : turnR ld o y = 0 := if_neg hs
    have p4 : upd (tlS ld o y) (o + 2) (tlS ld o y (o + 2) - 10 * tlS ld o y (o + 1)) (o + 4) = y (o + 4) := by rw [up_n (by omega)]; exact s4
    have eP : tlP o (tlS ld o y) = upd (upd (tlS ld o y) (o + 2) (y (o + 2) + (ld + y (o + 3)) - 10 * y (o + 1))) (o + 4) (y (o + 4) + 1) := by
      unfold tlP; rw [p4, s2, s1]
    have q3 : tlP o (tlS ld o y) (o + 3) = y (o + 3) := by rw [eP, up_n (by omega), up_n (by omega)]; exact s3
    have q4 : tlP o (tlS ld o y) (o + 4) = y (o + 4) + 1 := by rw [eP, up_s]
    have eV : y (o + 3) + tlW o (tlP o (tlS ld o y)) = slW (y (o + 3)) (y (o + 4)) := by
      unfold tlW slW
      rw [q4, q3]
      by_cases g : jrem (y (o + 4) + 1) 3 = 0
      · rw [if_pos g, if_pos g, ew, (za_worn w hw).1]
        by_cases g9 : 9 ≤ nI w
        · rw [if_pos g9, if_pos g9, Int32.add_zero]
        · rw [if_neg g9, if_neg g9]
      · rw [if_neg g, if_neg g, Int32.add_zero]
    unfold turnL
    rw [if_pos hc, eR, Int32.add_zero, q3, eV]
    refine Prod.ext ?_ rfl
    show upd (tlP o (tlS ld o y)) (o + 3) (slW (y (o + 3)) (y (o + 4))) = turnC ld o y
    unfold turnC
    rw [eD, eS, eW, eL, eT, eP]
    unfold tlS
    exact up_chB y o _ _ _ _

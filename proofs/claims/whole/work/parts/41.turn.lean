/-! PURE PART: a minute of both sides -/
theorem up_s (z : RI) (k : Nat) (v : Int32) : upd z k v k = v := by unfold upd; exact if_pos rfl
theorem up_n {z : RI} {k i : Nat} {v : Int32} (h : ¬ i = k) : upd z k v i = z i := by unfold upd; exact if_neg h
/-- the class's numbers are the reference's -/
def eqT (x z : RI) : Prop := ∀ i, (i = 0 ∨ (4 ≤ i ∧ i < 36)) → x i = z i
theorem eqT.up {x z : RI} (h : eqT x z) (k : Nat) {v v' : Int32} (hv : v = v') : eqT (upd x k v) (upd z k v') := fun i hi => by
  subst hv
  unfold upd
  by_cases c : i = k
  · rw [if_pos c, if_pos c]
  · rw [if_neg c, if_neg c]; exact h i hi
/-- one face's invariant -/
def F1 (z : RI) (o : Nat) : Prop := (∃ d, d < 720 ∧ z o = nI d) ∧ (∃ w, w < 10 ∧ z (o + 3) = nI w) ∧ (z (o + 5) = 0 ∨ z (o + 5) = 1)
def FZ (z : RI) : Prop := F1 z 8 ∧ F1 z 15 ∧ F1 z 22 ∧ F1 z 29
theorem F1.mv {z z' : RI} {o : Nat} (h : F1 z o) (h0 : z' o = z o) (h3 : z' (o + 3) = z (o + 3)) (h5 : z' (o + 5) = z (o + 5)) : F1 z' o := by
  unfold F1; rw [h0, h3, h5]; exact h
theorem ss_eq (o : Nat) (z : RI) : ssM o z = z (o + 2) + (z 1 + z (o + 3)) := by unfold ssM; rw [Int32.add_assoc]
theorem up_chainA (z : RI) (o : Nat) (D S T : Int32) : upd (upd (upd z (o + 2) S) o D) (o + 6) T = upd (upd (upd (upd (upd z o D) (o + 2) S) (o + 3) (z (o + 3))) (o + 4) (z (o + 4))) (o + 6) T := by
  funext i
  simp only [upd]
  by_cases h6 : i = o + 6
  · simp only [if_pos h6]
  · simp only [if_neg h6]
    by_cases h4 : i = o + 4
    · subst h4
      simp only [if_neg (show ¬ o + 4 = o from by omega), if_neg (show ¬ o + 4 = o + 2 from by omega), if_pos]
    · simp only [if_neg h4]
      by_cases h3 : i = o + 3
      · subst h3
        simp only [if_neg (show ¬ o + 3 = o from by omega), if_neg (show ¬ o + 3 = o + 2 from by omega), if_pos]
      · simp only [if_neg h3]
        by_cases h2 : i = o + 2
        · subst h2
          simp only [if_neg (show ¬ o + 2 = o from by omega), if_pos]
        · simp only [if_neg h2]
theorem up_chainB (z : RI) (o : Nat) (S W L : Int32) : upd (upd (upd z (o + 2) S) (o + 4) L) (o + 3) W = upd (upd (upd (upd (upd z o (z o)) (o + 2) S) (o + 3) W) (o + 4) L) (o + 6) (z (o + 6)) := by
  funext i
  simp only [upd]
  by_cases h6 : i = o + 6
  · subst h6
    simp only [if_neg (show ¬ o + 6 = o + 3 from by omega), if_neg (show ¬ o + 6 = o + 4 from by omega), if_neg (show ¬ o + 6 = o + 2 from by omega), if_pos]
  · simp only [if_neg h6]
    by_cases h4 : i = o + 4
    · subst h4
      simp only [if_neg (show ¬ o + 4 = o + 3 from by omega), if_pos]
    · simp only [if_neg h4]
      by_cases h3 : i = o + 3
      · simp only [if_pos h3]
      · simp only [if_neg h3]
        by_cases h2 : i = o + 2
        · simp only [if_pos h2]
        · simp only [if_neg h2]
          by_cases h0 : i = o
          · subst h0; simp only [if_pos]
          · simp only [if_neg h0]
theorem up_id (z : RI) (k : Nat) : upd z k (z k) = z := by
  funext i
  unfold upd
  by_cases h : i = k
  · subst h; exact if_pos rfl
  · exact if_neg h
theorem up_W (z : RI) (o : Nat) (S L : Int32) : upd (upd z (o + 2) S) (o + 4) L = upd (upd (upd z (o + 2) S) (o + 4) L) (o + 3) (z (o + 3)) := by
  have q : z (o + 3) = upd (upd z (o + 2) S) (o + 4) L (o + 3) := by
    rw [up_n (by omega), up_n (by omega)]
  rw [q, up_id]
theorem turn_eq {z : RI} {o : Nat} (h : F1 z o) : turnM o z = (turnC (z 1) o z, turnR (z 1) o z) := by
  obtain ⟨⟨d, hd, ed⟩, ⟨w, hw, ew⟩, hb⟩ := h
  by_cases hs : ssM o z < 10 * z (o + 1)
  · have hs' : z (o + 2) + (z 1 + z (o + 3)) < 10 * z (o + 1) := by rw [← ss_eq]; exact hs
    have eD : fpD (z 1) (z o) (z (o + 1)) (z (o + 2)) (z (o + 3)) = jrem (z o + 1) 720 := if_pos hs'
    have eS : fpS (z 1) (z (o + 1)) (z (o + 2)) (z (o + 3)) = ssM o z := (if_pos hs').trans (ss_eq o z).symm
    have eW : fpW (z 1) (z (o + 1)) (z (o + 2)) (z (o + 3)) (z (o + 4)) = z (o + 3) := if_pos hs'
    have eL : fpL (z 1) (z (o + 1)) (z (o + 2)) (z (o + 3)) (z (o + 4)) = z (o + 4) := if_pos hs'
    have hn : jrem (z o + 1) 720 = nI ((d + 1) % 720) := by rw [ed, nI_1]; exact za_r720 (by omega)
    have hl : (d + 1) % 720 < 720 := Nat.mod_lt _ (by decide)
    have eR : turnR (z 1) o z = stM o z := by
      unfold turnR fpR stM
      rw [if_pos hs']
      rcases hb with b | b
      · rw [if_pos b, if_neg (by rw [b]; decide)]
      · rw [if_neg (by rw [b]; decide), if_pos b, hn, za_strM hl, za_r60 (by omega)]
        by_cases g : (d + 1) % 720 % 60 = 0
        · rw [if_pos g, g]; exact if_pos rfl
        · rw [if_neg g, if_neg (nI_ne0 (by omega) (by omega))]
    have eT : fpT (z 1) (z o) (z (o + 1)) (z (o + 2)) (z (o + 3)) (z (o + 5)) (z (o + 6)) = z (o + 6) + stM o z := by
      unfold fpT stM
      rw [if_pos hs']
      rcases hb with b | b
      · rw [if_pos b, if_neg (by rw [b]; decide), Int32.add_zero]
      · rw [if_neg (by rw [b]; decide), if_pos b, hn, za_strM hl, za_r60 (by omega)]
        by_cases g : (d + 1) % 720 % 60 = 0
        · rw [if_pos g, g]; exact if_pos rfl
        · rw [if_neg g, if_neg (nI_ne0 (by omega) (by omega)), Int32.add_zero]
    rw [eR]
    unfold turnM
    rw [if_pos hs]
    refine Prod.ext ?_ rfl
    show upd (upd (upd z (o + 2) (ssM o z)) o (jrem (z o + 1) 720)) (o + 6) (z (o + 6) + stM o z) = turnC (z 1) o z
    unfold turnC
    rw [eD, eS, eW, eL, eT]
    exact up_chainA z o _ _ _
  · have hs' : ¬ z (o + 2) + (z 1 + z (o + 3)) < 10 * z (o + 1) := by rw [← ss_eq]; exact hs
    have eD : fpD (z 1) (z o) (z (o + 1)) (z (o + 2)) (z (o + 3)) = z o := if_neg hs'
    have eS : fpS (z 1) (z (o + 1)) (z (o + 2)) (z (o + 3)) = ssM o z - 10 * z (o + 1) := (if_neg hs').trans (by unfold slS; rw [ss_eq])
    have eW : fpW (z 1) (z (o + 1)) (z (o + 2)) (z (o + 3)) (z (o + 4)) = slW (z (o + 3)) (z (o + 4)) := if_neg hs'
    have eL : fpL (z 1) (z (o + 1)) (z (o + 2)) (z (o + 3)) (z (o + 4)) = z (o + 4) + 1 := if_neg hs'
    have eT : fpT (z 1) (z o) (z (o + 1)) (z (o + 2)) (z (o + 3)) (z (o + 5)) (z (o + 6)) = z (o + 6) := if_neg hs'
    have eR : turnR (z 1) o z = 0 := if_neg hs'
    rw [eR]
    unfold turnM turnC
    rw [if_neg hs, eD, eS, eW, eL, eT]
    unfold slW
    by_cases g : jrem (z (o + 4) + 1) 3 = 0
    · rw [if_pos g, if_pos g, ew, (za_worn w hw).1]
      by_cases g9 : 9 ≤ nI w
      · rw [if_pos g9, if_pos g9]
        refine Prod.ext ?_ rfl
        show upd (upd z (o + 2) (ssM o z - 10 * z (o + 1))) (o + 4) (z (o + 4) + 1) = _
        rw [up_W, ew]
        exact up_chainB z o _ _ _
      · rw [if_neg g9, if_neg g9]
        refine Prod.ext ?_ rfl
        exact up_chainB z o _ _ _
    · rw [if_neg g, if_neg g]
      refine Prod.ext ?_ rfl
      show upd (upd z (o + 2) (ssM o z - 10 * z (o + 1))) (o + 4) (z (o + 4) + 1) = _
      rw [up_W]
      exact up_chainB z o _ _ _
/-- a turn leaves the rest -/
theorem turnC_n {ld : Int32} {o i : Nat} {z : RI} (h0 : ¬ i = o) (h2 : ¬ i = o + 2) (h3 : ¬ i = o + 3) (h4 : ¬ i = o + 4) (h6 : ¬ i = o + 6) : turnC ld o z i = z i := by
  unfold turnC
  rw [up_n h6, up_n h4, up_n h3, up_n h2, up_n h0]
theorem turnC_o {ld : Int32} {o i : Nat} {z : RI} (h : i < o ∨ o + 7 ≤ i) : turnC ld o z i = z i := turnC_n (by omega) (by omega) (by omega) (by omega) (by omega)
theorem turnC_F {ld : Int32} {o : Nat} {z : RI} (h : F1 z o) : F1 (turnC ld o z) o := by
  obtain ⟨⟨d, hd, ed⟩, ⟨w, hw, ew⟩, hb⟩ := h
  have e0 : turnC ld o z o = fpD ld (z o) (z (o + 1)) (z (o + 2)) (z (o + 3)) := by
    unfold turnC
    rw [up_n (by omega), up_n (by omega), up_n (by omega), up_n (by omega), up_s]
  have e3 : turnC ld o z (o + 3) = fpW ld (z (o + 1)) (z (o + 2)) (z (o + 3)) (z (o + 4)) := by
    unfold turnC
    rw [up_n (by omega), up_n (by omega), up_s]
  have e5 : turnC ld o z (o + 5) = z (o + 5) := turnC_n (by omega) (by omega) (by omega) (by omega) (by omega)
  refine ⟨?_, ?_, by rw [e5]; exact hb⟩
  · rw [e0]
    unfold fpD
    split
    · rw [ed, nI_1]
      exact ⟨(d + 1) % 720, Nat.mod_lt _ (by decide), za_r720 (by omega)⟩
    · exact ⟨d, hd, ed⟩
  · rw [e3]
    unfold fpW
    split
    · exact ⟨w, hw, ew⟩
    · unfold slW
      split
      · rw [ew]; exact (za_worn w hw).2
      · exact ⟨w, hw, ew⟩
theorem turnC_eq {x z : RI} {ld : Int32} {o : Nat} (h : eqT x z) (ho : 8 ≤ o) (ho2 : o + 6 < 36) : eqT (turnC ld o x) (turnC ld o z) ∧ turnR ld o x = turnR ld o z := by
  have e0 := h o (by omega)
  have e1 := h (o + 1) (by omega)
  have e2 := h (o + 2) (by omega)
  have e3 := h (o + 3) (by omega)
  have e4 := h (o + 4) (by omega)
  have e5 := h (o + 5) (by omega)
  have e6 := h (o + 6) (by omega)
  refine ⟨?_, ?_⟩
  · unfold turnC
    rw [e0, e1, e2, e3, e4, e5, e6]
    exact ((((h.up _ rfl).up _ rfl).up _ rfl).up _ rfl).up _ rfl
  · unfold turnR
    rw [e0, e1, e2, e3, e5]
theorem FZ.turn {z : RI} {ld : Int32} {o : Nat} (h : FZ z) (ho : o = 8 ∨ o = 15 ∨ o = 22 ∨ o = 29) : FZ (turnC ld o z) := by
  obtain ⟨h1, h2, h3, h4⟩ := h
  rcases ho with rfl | rfl | rfl | rfl
  · exact ⟨turnC_F h1, h2.mv (turnC_o (by omega)) (turnC_o (by omega)) (turnC_o (by omega)), h3.mv (turnC_o (by omega)) (turnC_o (by omega)) (turnC_o (by omega)), h4.mv (turnC_o (by omega)) (turnC_o (by omega)) (turnC_o (by omega))⟩
  · exact ⟨h1.mv (turnC_o (by omega)) (turnC_o (by omega)) (turnC_o (by omega)), turnC_F h2, h3.mv (turnC_o (by omega)) (turnC_o (by omega)) (turnC_o (by omega)), h4.mv (turnC_o (by omega)) (turnC_o (by omega)) (turnC_o (by omega))⟩
  · exact ⟨h1.mv (turnC_o (by omega)) (turnC_o (by omega)) (turnC_o (by omega)), h2.mv (turnC_o (by omega)) (turnC_o (by omega)) (turnC_o (by omega)), turnC_F h3, h4.mv (turnC_o (by omega)) (turnC_o (by omega)) (turnC_o (by omega))⟩
  · exact ⟨h1.mv (turnC_o (by omega)) (turnC_o (by omega)) (turnC_o (by omega)), h2.mv (turnC_o (by omega)) (turnC_o (by omega)) (turnC_o (by omega)), h3.mv (turnC_o (by omega)) (turnC_o (by omega)) (turnC_o (by omega)), turnC_F h4⟩
theorem FZ.up {z : RI} {k : Nat} {v : Int32} (h : FZ z) (hk : k < 8 ∨ 36 ≤ k) : FZ (upd z k v) := by
  obtain ⟨h1, h2, h3, h4⟩ := h
  exact ⟨h1.mv (up_n (by omega)) (up_n (by omega)) (up_n (by omega)), h2.mv (up_n (by omega)) (up_n (by omega)) (up_n (by omega)), h3.mv (up_n (by omega)) (up_n (by omega)) (up_n (by omega)), h4.mv (up_n (by omega)) (up_n (by omega)) (up_n (by omega))⟩
/-- the settings, by their own numbers -/
def sgR (z : RI) : RI := fun k => z (1 + k)
theorem mi4_n {ld : Int32} {z : RI} {i : Nat} (h : i < 8 ∨ 36 ≤ i) : mi4 ld z i = z i := by
  unfold mi4
  rw [turnC_o (by omega), turnC_o (by omega), turnC_o (by omega), turnC_o (by omega)]
theorem mi_eq {z : RI} (h : FZ z) : (mi4M z).1 = mi4 (z 1) (upd z 0 (z 0 + 1)) ∧ minMR z = minR (sgR z) z ∧ FZ (mi4M z).1 := by
  have f0 : FZ (upd z 0 (z 0 + 1)) := h.up (by omega)
  have l0 : (upd z 0 (z 0 + 1)) 1 = z 1 := up_n (by omega)
  have q1 : mi1 z = (turnC (z 1) 8 (upd z 0 (z 0 + 1)), turnR (z 1) 8 (upd z 0 (z 0 + 1))) := by unfold mi1; rw [turn_eq f0.1, l0]
  have f1 : FZ (mi1 z).1 := by rw [q1]; exact f0.turn (by omega)
  have l1 : (mi1 z).1 1 = z 1 := by rw [q1]; show turnC (z 1) 8 (upd z 0 (z 0 + 1)) 1 = z 1; rw [turnC_o (by omega)]; exact l0
  have q2 : mi2 z = (turnC (z 1) 15 (mi1 z).1, turnR (z 1) 15 (mi1 z).1) := by unfold mi2; rw [turn_eq f1.2.1, l1]
  have f2 : FZ (mi2 z).1 := by rw [q2]; exact f1.turn (by omega)
  have l2 : (mi2 z).1 1 = z 1 := by rw [q2]; show turnC (z 1) 15 (mi1 z).1 1 = z 1; rw [turnC_o (by omega)]; exact l1
  have q3 : mi3 z = (turnC (z 1) 22 (mi2 z).1, turnR (z 1) 22 (mi2 z).1) := by unfold mi3; rw [turn_eq f2.2.2.1, l2]
  have f3 : FZ (mi3 z).1 := by rw [q3]; exact f2.turn (by omega)
  have l3 : (mi3 z).1 1 = z 1 := by rw [q3]; show turnC (z 1) 22 (mi2 z).1 1 = z 1; rw [turnC_o (by omega)]; exact l2
  have q4 : mi4M z = (turnC (z 1) 29 (mi3 z).1, turnR (z 1) 29 (mi3 z).1) := by unfold mi4M; rw [turn_eq f3.2.2.2, l3]
  have g1 : (mi1 z).1 = turnC (z 1) 8 (upd z 0 (z 0 + 1)) := by rw [q1]
  have g2 : (mi2 z).1 = turnC (z 1) 15 (turnC (z 1) 8 (upd z 0 (z 0 + 1))) := by rw [q2, g1]
  have g3 : (mi3 z).1 = turnC (z 1) 22 (turnC (z 1) 15 (turnC (z 1) 8 (upd z 0 (z 0 + 1)))) := by rw [q3, g2]
  have r1 : (mi1 z).2 = turnR (z 1) 8 (upd z 0 (z 0 + 1)) := by rw [q1]
  have r2 : (mi2 z).2 = turnR (z 1) 15 (turnC (z 1) 8 (upd z 0 (z 0 + 1))) := by rw [q2, g1]
  have r3 : (mi3 z).2 = turnR (z 1) 22 (turnC (z 1) 15 (turnC (z 1) 8 (upd z 0 (z 0 + 1)))) := by rw [q3, g2]
  have r4 : (mi4M z).2 = turnR (z 1) 29 (turnC (z 1) 22 (turnC (z 1) 15 (turnC (z 1) 8 (upd z 0 (z 0 + 1))))) := by rw [q4, g3]
  refine ⟨by rw [q4, g3]; rfl, ?_, by rw [q4]; exact f3.turn (by omega)⟩
  unfold minMR
  rw [r1, r2, r3, r4]
  rfl
/-- the shaft -/
theorem shM_eq {y : RI} (h : FZ y) : shM y = shC (sgR y) y := by
  obtain ⟨⟨⟨d1, k1, e1⟩, -⟩, ⟨⟨d2, k2, e2⟩, -⟩, ⟨⟨d3, k3, e3⟩, -⟩, ⟨d4, k4, e4⟩, -⟩ := h
  have b1 : bkM (y 8) = gbD (y 8) := by rw [e1]; exact za_back k1
  have b2 : bkM (y 15) = gbD (y 15) := by rw [e2]; exact za_back k2
  have b3 : bkM (y 22) = gbD (y 22) := by rw [e3]; exact za_back k3
  have b4 : bkM (y 29) = gbD (y 29) := by rw [e4]; exact za_back k4
  have s5 : ∀ i, sh5 y i = upd y 4 (shSM y) i := by
    intro i
    unfold sh5 shSM
    by_cases c : i = 4
    · subst c; rw [up_s, up_s]
    · rw [up_n c, up_n c, up_n c, up_n c, up_n c, up_n c]
  have hsg : shS (sgR y) y = shSM y := rfl
  have hg2 : sgR y 2 = y 3 := rfl
  funext i
  unfold shM shC
  rw [hsg, hg2]
  by_cases c : shSM y < y 3
  · have c' : ¬ y 3 ≤ shSM y := fun q => (Int32.not_lt.mpr q) c
    rw [if_pos c, if_neg c', if_neg c', if_neg c', if_neg c', if_neg c', if_neg c', s5]
    have u5 : upd (upd y 4 (shSM y)) 5 (y 5) = upd y 4 (shSM y) := (congrArg (upd (upd y 4 (shSM y)) 5) (up_n (by omega)).symm).trans (up_id _ _)
    have u8 : upd (upd y 4 (shSM y)) 8 (y 8) = upd y 4 (shSM y) := (congrArg (upd (upd y 4 (shSM y)) 8) (up_n (by omega)).symm).trans (up_id _ _)
    have u15 : upd (upd y 4 (shSM y)) 15 (y 15) = upd y 4 (shSM y) := (congrArg (upd (upd y 4 (shSM y)) 15) (up_n (by omega)).symm).trans (up_id _ _)
    have u22 : upd (upd y 4 (shSM y)) 22 (y 22) = upd y 4 (shSM y) := (congrArg (upd (upd y 4 (shSM y)) 22) (up_n (by omega)).symm).trans (up_id _ _)
    have u29 : upd (upd y 4 (shSM y)) 29 (y 29) = upd y 4 (shSM y) := (congrArg (upd (upd y 4 (shSM y)) 29) (up_n (by omega)).symm).trans (up_id _ _)
    rw [u5, u8, u15, u22, u29]
  · have c' : y 3 ≤ shSM y := Int32.not_lt.mp c
    rw [if_neg c, if_pos c', if_pos c', if_pos c', if_pos c', if_pos c', if_pos c', b1, b2, b3, b4]
    unfold upd
    by_cases c4 : i = 4
    · subst c4; rfl
    · simp only [if_neg c4, s5, up_n c4]
theorem shC_eq {x z : RI} {sg sg' : RI} (h : eqT x z) (h0 : sg 0 = sg' 0) (h2 : sg 2 = sg' 2) : eqT (shC sg x) (shC sg' z) := by
  have e4 := h 4 (by omega)
  have e5 := h 5 (by omega)
  have e8 := h 8 (by omega)
  have e11 := h 11 (by omega)
  have e15 := h 15 (by omega)
  have e18 := h 18 (by omega)
  have e22 := h 22 (by omega)
  have e25 := h 25 (by omega)
  have e29 := h 29 (by omega)
  have e32 := h 32 (by omega)
  have es : shS sg x = shS sg' z := by unfold shS; rw [e4, h0, e11, e18, e25, e32]
  unfold shC
  rw [es, h2, e5, e8, e15, e22, e29]
  exact (((((h.up _ rfl).up _ rfl).up _ rfl).up _ rfl).up _ rfl).up _ rfl
theorem shC_n {sg z : RI} {i : Nat} (h4 : ¬ i = 4) (h5 : ¬ i = 5) (h8 : ¬ i = 8) (h15 : ¬ i = 15) (h22 : ¬ i = 22) (h29 : ¬ i = 29) : shC sg z i = z i := by
  unfold shC
  rw [up_n h29, up_n h22, up_n h15, up_n h8, up_n h5, up_n h4]
theorem shC_F {sg z : RI} (h : FZ z) : FZ (shC sg z) := by
  have n3 : ∀ o, (o = 8 ∨ o = 15 ∨ o = 22 ∨ o = 29) → shC sg z (o + 3) = z (o + 3) ∧ shC sg z (o + 5) = z (o + 5) := by
    intro o ho
    exact ⟨shC_n (by omega) (by omega) (by omega) (by omega) (by omega) (by omega), shC_n (by omega) (by omega) (by omega) (by omega) (by omega) (by omega)⟩
  have gd : ∀ (v : Int32) (b : Prop) [Decidable b], (∃ d, d < 720 ∧ v = nI d) → ∃ d, d < 720 ∧ (if b then gbD v else v) = nI d := by
    intro v b _ hv
    obtain ⟨d, hd, rfl⟩ := hv
    split
    · exact za_gb hd
    · exact ⟨d, hd, rfl⟩
  obtain ⟨h1, h2, h3, h4⟩ := h
  have p8 : shC sg z 8 = if sg 2 ≤ shS sg z then gbD (z 8) else z 8 := by
    unfold shC; rw [up_n (by omega), up_n (by omega), up_n (by omega), up_s]
  have p15 : shC sg z 15 = if sg 2 ≤ shS sg z then gbD (z 15) else z 15 := by
    unfold shC; rw [up_n (by omega), up_n (by omega), up_s]
  have p22 : shC sg z 22 = if sg 2 ≤ shS sg z then gbD (z 22) else z 22 := by
    unfold shC; rw [up_n (by omega), up_s]
  have p29 : shC sg z 29 = if sg 2 ≤ shS sg z then gbD (z 29) else z 29 := by
    unfold shC; rw [up_s]
  refine ⟨⟨?_, ?_⟩, ⟨?_, ?_⟩, ⟨?_, ?_⟩, ⟨?_, ?_⟩⟩
  · rw [p8]; exact gd _ _ h1.1
  · rw [(n3 8 (by omega)).1, (n3 8 (by omega)).2]; exact h1.2
  · rw [p15]; exact gd _ _ h2.1
  · rw [(n3 15 (by omega)).1, (n3 15 (by omega)).2]; exact h2.2
  · rw [p22]; exact gd _ _ h3.1
  · rw [(n3 22 (by omega)).1, (n3 22 (by omega)).2]; exact h3.2
  · rw [p29]; exact gd _ _ h4.1
  · rw [(n3 29 (by omega)).1, (n3 29 (by omega)).2]; exact h4.2

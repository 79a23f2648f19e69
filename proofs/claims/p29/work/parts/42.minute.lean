/-! PURE PART: the law's minute is the class's -/
theorem fa_of {A f k : RI} {o : Nat} (h : F1 (zc A f k) (8 + o)) (ho : o + 6 < 28) : F1 f o := by
  have e0 : zc A f k (8 + o) = f o := zc_f (by omega)
  have e3 : zc A f k (8 + o + 3) = f (o + 3) := zc_f (i := o + 3) (by omega)
  have e5 : zc A f k (8 + o + 5) = f (o + 5) := zc_f (i := o + 5) (by omega)
  unfold F1 at h ⊢
  rw [e0, e3, e5] at h
  exact h
theorem ts_step {ld : Int32} {n o : Nat} {y : RI} {q r : Int32} (h : F1 y o) : turnsL ld (n + 1) o y q r = turnsL ld n (o + 7) (turnC ld o y) (q + turnR ld o y) (r + turnC ld o y (o + 3)) := by
  have e : turnsL ld (n + 1) o y q r = turnsL ld n (o + 7) (turnL ld o y q).1 (turnL ld o y q).2 (r + (turnL ld o y q).1 (o + 3)) := rfl
  rw [e, tl_eq h]
theorem ts_eq {A f k : RI} {ld r0 : Int32} (hF : FZ (zc A f k)) : zc A (turnsL ld 4 0 f 0 r0).1 k = mi4 ld (zc A f k) ∧
    (turnsL ld 4 0 f 0 r0).2.1 = (((0 + turnR ld 8 (zc A f k)) + turnR ld 15 (turnC ld 8 (zc A f k))) + turnR ld 22 (turnC ld 15 (turnC ld 8 (zc A f k)))) + turnR ld 29 (turnC ld 22 (turnC ld 15 (turnC ld 8 (zc A f k)))) ∧
    (turnsL ld 4 0 f 0 r0).2.2 = (((r0 + mi4 ld (zc A f k) 11) + mi4 ld (zc A f k) 18) + mi4 ld (zc A f k) 25) + mi4 ld (zc A f k) 32 := by
  obtain ⟨z, hz⟩ : ∃ z, z = zc A f k := ⟨_, rfl⟩
  rw [← hz] at hF ⊢
  obtain ⟨f1, e1⟩ : ∃ x, x = turnC ld 0 f := ⟨_, rfl⟩
  obtain ⟨f2, e2⟩ : ∃ x, x = turnC ld 7 f1 := ⟨_, rfl⟩
  obtain ⟨f3, e3⟩ : ∃ x, x = turnC ld 14 f2 := ⟨_, rfl⟩
  obtain ⟨f4, e4⟩ : ∃ x, x = turnC ld 21 f3 := ⟨_, rfl⟩
  have z1 : zc A f1 k = turnC ld 8 z := by rw [e1, hz]; exact (zc_turn (o := 0) (by decide)).1
  have z2 : zc A f2 k = turnC ld 15 (turnC ld 8 z) := by rw [e2, ← z1]; exact (zc_turn (o := 7) (by decide)).1
  have z3 : zc A f3 k = turnC ld 22 (turnC ld 15 (turnC ld 8 z)) := by rw [e3, ← z2]; exact (zc_turn (o := 14) (by decide)).1
  have z4 : zc A f4 k = mi4 ld z := by
    have q : zc A f4 k = turnC ld 29 (zc A f3 k) := by rw [e4]; exact (zc_turn (o := 21) (by decide)).1
    rw [q, z3]; rfl
  have g1 : FZ (zc A f1 k) := by rw [z1]; exact hF.turn (by omega)
  have g2 : FZ (zc A f2 k) := by rw [z2, ← z1]; exact g1.turn (by omega)
  have g3 : FZ (zc A f3 k) := by rw [z3, ← z2]; exact g2.turn (by omega)
  have a0 : F1 f 0 := fa_of (A := A) (k := k) (o := 0) (by rw [← hz]; exact hF.1) (by decide)
  have a1 : F1 f1 7 := fa_of (A := A) (k := k) (o := 7) g1.2.1 (by decide)
  have a2 : F1 f2 14 := fa_of (A := A) (k := k) (o := 14) g2.2.2.1 (by decide)
  have a3 : F1 f3 21 := fa_of (A := A) (k := k) (o := 21) g3.2.2.2 (by decide)
  have r0' : turnR ld 0 f = turnR ld 8 z := by rw [hz]; exact (zc_turn (o := 0) (t := A) (k := k) (by decide)).2
  have r1 : turnR ld 7 f1 = turnR ld 15 (turnC ld 8 z) := by rw [← z1]; exact (zc_turn (o := 7) (by decide)).2
  have r2 : turnR ld 14 f2 = turnR ld 22 (turnC ld 15 (turnC ld 8 z)) := by rw [← z2]; exact (zc_turn (o := 14) (by decide)).2
  have r3 : turnR ld 21 f3 = turnR ld 29 (turnC ld 22 (turnC ld 15 (turnC ld 8 z))) := by rw [← z3]; exact (zc_turn (o := 21) (by decide)).2
  have d1 : f1 3 = mi4 ld z 11 := by
    rw [show f1 3 = zc A f1 k 11 from (zc_f (i := 3) (by decide)).symm, z1]
    unfold mi4
    rw [turnC_o (o := 29) (by omega), turnC_o (o := 22) (by omega), turnC_o (o := 15) (by omega)]
  have d2 : f2 10 = mi4 ld z 18 := by
    rw [show f2 10 = zc A f2 k 18 from (zc_f (i := 10) (by decide)).symm, z2]
    unfold mi4
    rw [turnC_o (o := 29) (by omega), turnC_o (o := 22) (by omega)]
  have d3 : f3 17 = mi4 ld z 25 := by
    rw [show f3 17 = zc A f3 k 25 from (zc_f (i := 17) (by decide)).symm, z3]
    unfold mi4
    rw [turnC_o (o := 29) (by omega)]
  have d4 : f4 24 = mi4 ld z 32 := by
    rw [show f4 24 = zc A f4 k 32 from (zc_f (i := 24) (by decide)).symm, z4]
  have e : turnsL ld 4 0 f 0 r0 = (f4, (((0 + turnR ld 0 f) + turnR ld 7 f1) + turnR ld 14 f2) + turnR ld 21 f3, (((r0 + f1 3) + f2 10) + f3 17) + f4 24) := by
    have s1 : turnsL ld 4 0 f 0 r0 = turnsL ld 3 7 f1 (0 + turnR ld 0 f) (r0 + f1 3) := by rw [e1]; exact ts_step a0
    have s2 : ∀ q r, turnsL ld 3 7 f1 q r = turnsL ld 2 14 f2 (q + turnR ld 7 f1) (r + f2 10) := fun q r => by rw [e2]; exact ts_step a1
    have s3 : ∀ q r, turnsL ld 2 14 f2 q r = turnsL ld 1 21 f3 (q + turnR ld 14 f2) (r + f3 17) := fun q r => by rw [e3]; exact ts_step a2
    have s4 : ∀ q r, turnsL ld 1 21 f3 q r = turnsL ld 0 28 f4 (q + turnR ld 21 f3) (r + f4 24) := fun q r => by rw [e4]; exact ts_step a3
    rw [s1, s2, s3, s4]
    rfl
  rw [e, r0', r1, r2, r3, d1, d2, d3, d4]
  exact ⟨z4, rfl, rfl⟩
theorem shC_neg {sg y : RI} (c' : ¬ sg 2 ≤ shS sg y) : shC sg y = upd y 4 (shS sg y) := by
  unfold shC
  rw [if_neg c', if_neg c', if_neg c', if_neg c', if_neg c', if_neg c']
  have u5 : upd (upd y 4 (shS sg y)) 5 (y 5) = upd y 4 (shS sg y) := (congrArg (upd (upd y 4 (shS sg y)) 5) (up_n (by omega)).symm).trans (up_id _ _)
  have u8 : upd (upd y 4 (shS sg y)) 8 (y 8) = upd y 4 (shS sg y) := (congrArg (upd (upd y 4 (shS sg y)) 8) (up_n (by omega)).symm).trans (up_id _ _)
  have u15 : upd (upd y 4 (shS sg y)) 15 (y 15) = upd y 4 (shS sg y) := (congrArg (upd (upd y 4 (shS sg y)) 15) (up_n (by omega)).symm).trans (up_id _ _)
  have u22 : upd (upd y 4 (shS sg y)) 22 (y 22) = upd y 4 (shS sg y) := (congrArg (upd (upd y 4 (shS sg y)) 22) (up_n (by omega)).symm).trans (up_id _ _)
  have u29 : upd (upd y 4 (shS sg y)) 29 (y 29) = upd y 4 (shS sg y) := (congrArg (upd (upd y 4 (shS sg y)) 29) (up_n (by omega)).symm).trans (up_id _ _)
  rw [u5, u8, u15, u22, u29]
theorem shC_pos {sg y : RI} (c' : sg 2 ≤ shS sg y) : shC sg y = upd (upd (upd (upd (upd (upd y 4 0) 5 (y 5 + 1)) 8 (gbD (y 8))) 15 (gbD (y 15))) 22 (gbD (y 22))) 29 (gbD (y 29)) := by
  unfold shC
  rw [if_pos c', if_pos c', if_pos c', if_pos c', if_pos c', if_pos c']
theorem bk_eq (y : RI) : bkL 4 0 y = upd (upd (upd (upd y 0 (gbD (y 0))) 7 (gbD (y 7))) 14 (gbD (y 14))) 21 (gbD (y 21)) := by
  have h : ∀ a b c : Int32, upd y 0 a 7 = y 7 ∧ upd (upd y 0 a) 7 b 14 = y 14 ∧ upd (upd (upd y 0 a) 7 b) 14 c 21 = y 21 := by
    intro a b c
    exact ⟨up_n (by decide), by rw [up_n (by decide), up_n (by decide)], by rw [up_n (by decide), up_n (by decide), up_n (by decide)]⟩
  have e : bkL 4 0 y = upd (upd (upd (upd y 0 (gbD (y 0))) 7 (gbD (upd y 0 (gbD (y 0)) 7))) 14 (gbD (upd (upd y 0 (gbD (y 0))) 7 (gbD (upd y 0 (gbD (y 0)) 7)) 14))) 21 (gbD (upd (upd (upd y 0 (gbD (y 0))) 7 (gbD (upd y 0 (gbD (y 0)) 7))) 14 (gbD (upd (upd y 0 (gbD (y 0))) 7 (gbD (upd y 0 (gbD (y 0)) 7)) 14)) 21)) := rfl
  rw [e, (h _ 0 0).1, (h _ _ 0).2.1, (h _ _ _).2.2]
/-- behind the shaft -/
theorem ls_eq {t f k : RI} (hF : FZ (zc t f k)) : zc (lsT f t) (lsF f t) k = miA (sgR (zc t f k)) (zc t f k) ∧ lmR f t = minR (sgR (zc t f k)) (zc t f k) := by
  have hA : zc (ltA t) f k = upd (zc t f k) 0 (zc t f k 0 + 1) := by
    unfold ltA; rw [zc_ut (by decide), show zc t f k 0 = t 0 from zc_t (by decide)]
  have l1 : ltA t 1 = sgR (zc t f k) 0 := by
    show upd t 0 (t 0 + 1) 1 = zc t f k 1
    rw [up_n (by decide)]; exact (zc_t (by decide)).symm
  have t1 : t 1 = sgR (zc t f k) 0 := (zc_t (f := f) (k := k) (by decide)).symm
  have hF2 : FZ (zc (ltA t) f k) := by rw [hA]; exact hF.up (by omega)
  obtain ⟨p1, p2, p3⟩ := ts_eq (ld := ltA t 1) (r0 := t 1) hF2
  have q1 : zc (ltA t) (ltR f t).1 k = mi4 (sgR (zc t f k) 0) (upd (zc t f k) 0 (zc t f k 0 + 1)) := by rw [← hA, ← l1]; exact p1
  have q3 : (ltR f t).2.2 = (((sgR (zc t f k) 0 + zc (ltA t) (ltR f t).1 k 11) + zc (ltA t) (ltR f t).1 k 18) + zc (ltA t) (ltR f t).1 k 25) + zc (ltA t) (ltR f t).1 k 32 := by
    rw [q1, ← hA, ← l1]
    have := p3
    rw [t1, ← l1] at this
    unfold ltR
    rw [t1, ← l1]
    exact this
  obtain ⟨y, hy⟩ : ∃ y, y = zc (ltA t) (ltR f t).1 k := ⟨_, rfl⟩
  have eM : miA (sgR (zc t f k)) (zc t f k) = shC (sgR (zc t f k)) y := by rw [hy, q1]; rfl
  refine ⟨?_, ?_⟩
  · rw [eM]
    have y4 : y 4 = ltA t 4 := by rw [hy]; exact zc_t (by decide)
    have eS : shS (sgR (zc t f k)) y = ltB f t 4 := by
      unfold ltB
      rw [up_s, q3, ← hy]
      unfold shS
      rw [y4]
      simp only [Int32.add_assoc]
    have e3 : ltB f t 3 = sgR (zc t f k) 2 := by
      unfold ltB ltA
      rw [up_n (by decide), up_n (by decide)]
      exact (zc_t (f := f) (k := k) (by decide)).symm
    have zB : zc (ltB f t) (ltR f t).1 k = upd y 4 (shS (sgR (zc t f k)) y) := by
      have : ltB f t = upd (ltA t) 4 (ltB f t 4) := by unfold ltB; rw [up_s]
      rw [this, zc_ut (by decide), ← hy, eS]
    by_cases c : ltB f t 4 < ltB f t 3
    · have c' : ¬ sgR (zc t f k) 2 ≤ shS (sgR (zc t f k)) y := by rw [eS, ← e3]; exact Int32.not_le.mpr c
      have a1 : lsT f t = ltB f t := if_pos c
      have a2 : lsF f t = (ltR f t).1 := if_pos c
      rw [a1, a2, zB, shC_neg c']
    · have c' : sgR (zc t f k) 2 ≤ shS (sgR (zc t f k)) y := by rw [eS, ← e3]; exact Int32.not_lt.mp c
      have a1 : lsT f t = upd (upd (ltB f t) 4 0) 5 (upd (ltB f t) 4 0 5 + 1) := if_neg c
      have a2 : lsF f t = bkL 4 0 (ltR f t).1 := if_neg c
      have b5 : upd (ltB f t) 4 0 5 = y 5 := by
        unfold ltB
        rw [up_n (by decide), up_n (by decide), hy]
        exact (zc_t (by decide)).symm
      have b8 : (ltR f t).1 0 = y 8 := by rw [hy]; exact (zc_f (i := 0) (by decide)).symm
      have b15 : (ltR f t).1 7 = y 15 := by rw [hy]; exact (zc_f (i := 7) (by decide)).symm
      have b22 : (ltR f t).1 14 = y 22 := by rw [hy]; exact (zc_f (i := 14) (by decide)).symm
      have b29 : (ltR f t).1 21 = y 29 := by rw [hy]; exact (zc_f (i := 21) (by decide)).symm
      rw [a1, a2, bk_eq, zc_uf (by decide), zc_uf (by decide), zc_uf (by decide), zc_uf (by decide), zc_ut (by decide), zc_ut (by decide), zB, b5, b8, b15, b22, b29, up_up, shC_pos c']
  · have e : lmR f t = (turnsL (ltA t 1) 4 0 f 0 (t 1)).2.1 := rfl
    rw [e, p2, hA, l1]
    rfl
theorem miA_ok {z sg : RI} (h : FZ z) : FZ (miA sg z) ∧ frM z (miA sg z) ∧ miA sg z 0 = z 0 + 1 := by
  have f0 : FZ (upd z 0 (z 0 + 1)) := h.up (by omega)
  have n4 : ∀ i, (i = 1 ∨ i = 2 ∨ i = 3 ∨ i = 6 ∨ i = 7 ∨ 36 ≤ i) → mi4 (sg 0) (upd z 0 (z 0 + 1)) i = z i := by
    intro i hi
    rw [mi4_n (by omega), up_n (by omega)]
  have f4 : FZ (mi4 (sg 0) (upd z 0 (z 0 + 1))) := by
    unfold mi4
    exact (((f0.turn (by omega)).turn (by omega)).turn (by omega)).turn (by omega)
  refine ⟨shC_F f4, fun i hi => ?_, ?_⟩
  · unfold miA
    rw [shC_n (by omega) (by omega) (by omega) (by omega) (by omega) (by omega)]
    exact n4 i (by omega)
  · unfold miA
    rw [shC_n (by omega) (by omega) (by omega) (by omega) (by omega) (by omega), mi4_n (by omega), up_s]
/-- a minute of the law's -/
theorem lm_eq {tm cn : Nat} {sf wf t f k : RI} {S R : Nat → Nat} (h : TOK tm cn sf wf (zc t f k) S R) (ht : tm + 1 < 2 ^ 30) :
    lmR f t = minR (sgR (zc t f k)) (zc t f k) ∧ frM (zc t f k) (minZ cn (zc t f k) sf wf (sgR (zc t f k))) ∧ TOK (tm + 1) cn sf wf (minZ cn (zc t f k) sf wf (sgR (zc t f k))) S R ∧
    ∃ w, (jrem (lsT f t 0) 1440 = 720 → ¬ lsT f t 7 ≤ 0 → RK cn (lsF f t) k (lsT f t) w) ∧ zc (lmT f k t w) (lmF f k t w) k = minZ cn (zc t f k) sf wf (sgR (zc t f k)) := by
  obtain ⟨hF, h0, h7, hc, hK⟩ := h
  obtain ⟨s1, s2⟩ := ls_eq hF
  obtain ⟨m1, m2, m3⟩ := miA_ok (sg := sgR (zc t f k)) hF
  rw [← s1] at m1 m2 m3
  have yT : TOK (tm + 1) cn sf wf (zc (lsT f t) (lsF f t) k) S R := ⟨m1, by rw [m3, h0, nI_1], (m2 7 (by omega)).trans h7, hc, hK.mv (fun i hi => m2 i (by omega))⟩
  have T0 : zc (lsT f t) (lsF f t) k 0 = lsT f t 0 := zc_t (by decide)
  have T7 : lsT f t 7 = nI cn := (zc_t (f := lsF f t) (k := k) (by decide)).symm.trans yT.2.2.1
  refine ⟨s2, ?_⟩
  unfold minZ
  rw [← s1, T0]
  by_cases g : jrem (lsT f t 0) 1440 = 720
  · rw [if_pos g]
    by_cases g1 : cn = 0
    · subst g1
      have c7 : lsT f t 7 ≤ 0 := by rw [T7]; decide
      have er : rsZ 0 (zc (lsT f t) (lsF f t) k) sf wf (sgR (zc t f k)) = zc (lsT f t) (lsF f t) k := if_pos tok_none
      rw [er]
      refine ⟨m2, yT, 0, fun _ q => absurd c7 q, ?_⟩
      have a1 : lmT f k t 0 = lsT f t := (if_pos g).trans (if_pos c7)
      have a2 : lmF f k t 0 = lsF f t := (if_pos g).trans (if_pos c7)
      rw [a1, a2]
    · have c7 : ¬ lsT f t 7 ≤ 0 := by rw [T7]; exact nI_nle (by omega) (by omega)
      obtain ⟨w, -, w1, w2, -, w4, w5, w6⟩ := rz_zc yT (by omega) (by omega)
      have hsg : rsZ cn (zc (lsT f t) (lsF f t) k) sf wf (sgR (zc (lsT f t) (lsF f t) k)) = rsZ cn (zc (lsT f t) (lsF f t) k) sf wf (sgR (zc t f k)) := by
        unfold rsZ; rw [show sgR (zc (lsT f t) (lsF f t) k) 1 = sgR (zc t f k) 1 from by unfold sgR; exact m2 (1 + 1) (by omega)]
      rw [hsg] at w2 w4 w5 w6
      refine ⟨fun i hi => (w5 i hi).trans (m2 i hi), ⟨w4, w6.trans yT.2.1, (w5 7 (by omega)).trans yT.2.2.1, hc, yT.2.2.2.2.mv (fun i hi => w5 i (by omega))⟩, w, fun _ _ => w1, ?_⟩
      have a1 : lmT f k t w = lrT (lsF f t) k (lsT f t) w := (if_pos g).trans (if_neg c7)
      have a2 : lmF f k t w = lrF (lsF f t) k (lsT f t) w := (if_pos g).trans (if_neg c7)
      rw [a1, a2]; exact w2
  · rw [if_neg g]
    have a1 : lmT f k t 0 = lsT f t := if_neg g
    have a2 : lmF f k t 0 = lsF f t := if_neg g
    exact ⟨m2, yT, 0, fun q => absurd q g, by rw [a1, a2]⟩

/-! PURE PART: one tower on both sides -/
/-- the class's minute goes along -/
theorem mi4_eq {x z : RI} {ld : Int32} (h : eqT x z) : eqT (mi4 ld x) (mi4 ld z) := by
  unfold mi4
  exact (turnC_eq (turnC_eq (turnC_eq (turnC_eq h (by omega) (by omega)).1 (by omega) (by omega)).1 (by omega) (by omega)).1 (by omega) (by omega)).1
theorem miA_eq {x z sg sg' : RI} (h : eqT x z) (h0 : sg 0 = sg' 0) (h2 : sg 2 = sg' 2) : eqT (miA sg x) (miA sg' z) := by
  unfold miA
  rw [h0]
  exact shC_eq (mi4_eq (h.up _ (by rw [h 0 (by omega)]))) h0 h2
theorem minZ_eq {x z sf wf sg sg' : RI} {cn : Nat} (h : eqT x z) (hs : ∀ k, k < 3 → sg k = sg' k) : eqT (minZ cn x sf wf sg) (minZ cn z sf wf sg') ∧ minR sg x = minR sg' z := by
  have hA := miA_eq h (hs 0 (by omega)) (hs 2 (by omega))
  have hA0 := hA 0 (by omega)
  refine ⟨?_, ?_⟩
  · unfold minZ
    rw [hA0]
    by_cases g : jrem (miA sg' z 0) 1440 = 720
    · rw [if_pos g, if_pos g]
      unfold rsZ
      rw [tok_x hA0, hs 1 (by omega)]
      by_cases g2 : tok cn (miA sg' z) sf wf = -1000
      · rw [if_pos g2, if_pos g2]; exact hA
      · rw [if_neg g2, if_neg g2]
        obtain ⟨a, b⟩ := rsL_eq (due := tok cn (miA sg' z) sf wf) (tol := sg' 1) 4 8 _ _ 0 (by omega) (by omega) hA
        exact a.up _ (by rw [a 6 (by omega), b])
    · rw [if_neg g, if_neg g]; exact hA
  · have u0 : eqT (upd x 0 (x 0 + 1)) (upd z 0 (z 0 + 1)) := h.up _ (by rw [h 0 (by omega)])
    have u1 := turnC_eq (ld := sg' 0) (o := 8) u0 (by omega) (by omega)
    have u2 := turnC_eq (ld := sg' 0) (o := 15) u1.1 (by omega) (by omega)
    have u3 := turnC_eq (ld := sg' 0) (o := 22) u2.1 (by omega) (by omega)
    have u4 := turnC_eq (ld := sg' 0) (o := 29) u3.1 (by omega) (by omega)
    unfold minR
    rw [hs 0 (by omega), u1.2, u2.2, u3.2, u4.2]
/-- one tower on both sides: tm its time, cn its keepers; x, sf, wf, sg the class's numbers, t, f, k the law's rows -/
def RTx (tm cn : Nat) (x sf wf sg t f k : RI) (S R : Nat → Nat) : Prop := eqT x (zc t f k) ∧ (∀ j, j < 3 → sg j = t (1 + j)) ∧ TOK tm cn sf wf (zc t f k) S R
theorem RTx.sg {tm cn : Nat} {x sf wf sg t f k : RI} {S R : Nat → Nat} (h : RTx tm cn x sf wf sg t f k S R) : ∀ j, j < 3 → sg j = sgR (zc t f k) j := fun j hj => (h.2.1 j hj).trans (zc_t (by omega)).symm
/-- the law's rows behind a minute -/
theorem RTx.min {tm cn : Nat} {x sf wf sg t f k : RI} {S R : Nat → Nat} (h : RTx tm cn x sf wf sg t f k S R) (ht : tm + 1 < 2 ^ 30) :
    ∃ w, (jrem (lsT f t 0) 1440 = 720 → ¬ lsT f t 7 ≤ 0 → RK cn (lsF f t) k (lsT f t) w) ∧ RTx (tm + 1) cn (minZ cn x sf wf sg) sf wf sg (lmT f k t w) (lmF f k t w) k S R ∧ minR sg x = lmR f t := by
  obtain ⟨m1, m2, m3, w, m4, m5⟩ := lm_eq h.2.2 ht
  obtain ⟨c1, c2⟩ := minZ_eq (cn := cn) (sf := sf) (wf := wf) (sg' := sgR (zc t f k)) h.1 h.sg
  refine ⟨w, m4, ⟨by rw [m5]; exact c1, fun j hj => ?_, by rw [m5]; exact m3⟩, c2.trans m1.symm⟩
  rw [h.2.1 j hj]
  have e1 : zc (lmT f k t w) (lmF f k t w) k (1 + j) = lmT f k t w (1 + j) := zc_t (by omega)
  have e2 : zc t f k (1 + j) = t (1 + j) := zc_t (by omega)
  rw [← e1, ← e2, m5]
  exact (m2 (1 + j) (by omega)).symm

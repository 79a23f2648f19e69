/-! PURE PART: a minute, many minutes -/
theorem FZ.one {z z' : RI} {o : Nat} (h : FZ z) (ho : o = 8 ∨ o = 15 ∨ o = 22 ∨ o = 29) (h1 : F1 z' o) (h2 : ∀ i, (i < o ∨ o + 7 ≤ i) → z' i = z i) : FZ z' := by
  obtain ⟨a, b, c, d⟩ := h
  rcases ho with rfl | rfl | rfl | rfl
  · exact ⟨h1, b.mv (h2 _ (by omega)) (h2 _ (by omega)) (h2 _ (by omega)), c.mv (h2 _ (by omega)) (h2 _ (by omega)) (h2 _ (by omega)), d.mv (h2 _ (by omega)) (h2 _ (by omega)) (h2 _ (by omega))⟩
  · exact ⟨a.mv (h2 _ (by omega)) (h2 _ (by omega)) (h2 _ (by omega)), h1, c.mv (h2 _ (by omega)) (h2 _ (by omega)) (h2 _ (by omega)), d.mv (h2 _ (by omega)) (h2 _ (by omega)) (h2 _ (by omega))⟩
  · exact ⟨a.mv (h2 _ (by omega)) (h2 _ (by omega)) (h2 _ (by omega)), b.mv (h2 _ (by omega)) (h2 _ (by omega)) (h2 _ (by omega)), h1, d.mv (h2 _ (by omega)) (h2 _ (by omega)) (h2 _ (by omega))⟩
  · exact ⟨a.mv (h2 _ (by omega)) (h2 _ (by omega)) (h2 _ (by omega)), b.mv (h2 _ (by omega)) (h2 _ (by omega)) (h2 _ (by omega)), c.mv (h2 _ (by omega)) (h2 _ (by omega)) (h2 _ (by omega)), h1⟩
theorem FZ.pick {z : RI} {o : Nat} (h : FZ z) (ho : o = 8 ∨ o = 15 ∨ o = 22 ∨ o = 29) : F1 z o := by
  rcases ho with rfl | rfl | rfl | rfl
  · exact h.1
  · exact h.2.1
  · exact h.2.2.1
  · exact h.2.2.2
theorem FZ.due {z : RI} {o d : Nat} (h : FZ z) (ho : o = 8 ∨ o = 15 ∨ o = 22 ∨ o = 29) (hd : d < 720) : FZ (upd (upd z o (nI d)) (o + 2) 0) := by
  obtain ⟨-, hw, hb⟩ := h.pick ho
  refine h.one ho ⟨⟨d, hd, ?_⟩, ?_, ?_⟩ (fun i hi => ?_)
  · rw [up_n (by omega), up_s]
  · rw [up_n (by omega), up_n (by omega)]; exact hw
  · rw [up_n (by omega), up_n (by omega)]; exact hb
  · rw [up_n (by omega), up_n (by omega)]
/-- resets -/
theorem rl_eq {d : Nat} (hd : d < 720) : ∀ (n o : Nat) (z : RI) (q : Int32), o + 7 * n = 36 → 8 ≤ o → FZ z → rlM (nI d) n o z q = rsL (nI d) (z 2) n o z q ∧ FZ (rsL (nI d) (z 2) n o z q).1 := by
  intro n
  induction n with
  | zero => exact fun o z q _ _ h => ⟨rfl, h⟩
  | succ n ih =>
    intro o z q ho h8 hF
    have hoo : o = 8 ∨ o = 15 ∨ o = 22 ∨ o = 29 := by omega
    obtain ⟨⟨k, hk, ek⟩, -, -⟩ := hF.pick hoo
    have c : distM (z o) (nI d) = distC (z o) (nI d) := by rw [ek]; exact za_dist hk hd
    by_cases g : distC (z o) (nI d) ≤ z 2
    · have q1 : rlM (nI d) (n + 1) o z q = rlM (nI d) n (o + 7) z q := if_pos (by rw [c]; exact g)
      have q2 : rsL (nI d) (z 2) (n + 1) o z q = rsL (nI d) (z 2) n (o + 7) z q := if_pos g
      rw [q1, q2]
      rcases n with _ | n
      · exact ⟨rfl, hF⟩
      · exact ih (o + 7) z q (by omega) (by omega) hF
    · have q1 : rlM (nI d) (n + 1) o z q = rlM (nI d) n (o + 7) (upd (upd z o (nI d)) (o + 2) 0) (q + 1) := if_neg (by rw [c]; exact g)
      have q2 : rsL (nI d) (z 2) (n + 1) o z q = rsL (nI d) (z 2) n (o + 7) (upd (upd z o (nI d)) (o + 2) 0) (q + 1) := if_neg g
      have hF2 := hF.due hoo hd
      have h2 : (upd (upd z o (nI d)) (o + 2) 0) 2 = z 2 := by rw [up_n (by omega), up_n (by omega)]
      rw [q1, q2]
      have r := ih (o + 7) (upd (upd z o (nI d)) (o + 2) 0) (q + 1) (by omega) (by omega) hF2
      rw [h2] at r
      exact r
theorem rsL_n {due tol : Int32} {i : Nat} (hi : i < 8 ∨ 36 ≤ i) : ∀ (n o : Nat) (z : RI) (q : Int32), o + 7 * n = 36 → 8 ≤ o → (rsL due tol n o z q).1 i = z i := by
  intro n
  induction n with
  | zero => exact fun o z q _ _ => rfl
  | succ n ih =>
    intro o z q ho h8
    by_cases g : distC (z o) due ≤ tol
    · rw [show rsL due tol (n + 1) o z q = rsL due tol n (o + 7) z q from if_pos g]
      exact ih _ _ _ (by omega) (by omega)
    · rw [show rsL due tol (n + 1) o z q = rsL due tol n (o + 7) (upd (upd z o due) (o + 2) 0) (q + 1) from if_neg g, ih _ _ _ (by omega) (by omega), up_n (by omega), up_n (by omega)]
theorem rsL_eq {due tol : Int32} : ∀ (n o : Nat) (x z : RI) (q : Int32), o + 7 * n = 36 → 8 ≤ o → eqT x z → eqT (rsL due tol n o x q).1 (rsL due tol n o z q).1 ∧ (rsL due tol n o x q).2 = (rsL due tol n o z q).2 := by
  intro n
  induction n with
  | zero => exact fun o x z q _ _ h => ⟨h, rfl⟩
  | succ n ih =>
    intro o x z q ho h8 h
    have c := h o (by omega)
    by_cases g : distC (z o) due ≤ tol
    · rw [show rsL due tol (n + 1) o z q = rsL due tol n (o + 7) z q from if_pos g, show rsL due tol (n + 1) o x q = rsL due tol n (o + 7) x q from if_pos (by rw [c]; exact g)]
      exact ih _ _ _ _ (by omega) (by omega) h
    · rw [show rsL due tol (n + 1) o z q = rsL due tol n (o + 7) (upd (upd z o due) (o + 2) 0) (q + 1) from if_neg g, show rsL due tol (n + 1) o x q = rsL due tol n (o + 7) (upd (upd x o due) (o + 2) 0) (q + 1) from if_neg (by rw [c]; exact g)]
      exact ih _ _ _ _ (by omega) (by omega) ((h.up _ rfl).up _ rfl)
/-- what stays of the reference's row -/
def frM (z z' : RI) : Prop := ∀ i, (i = 1 ∨ i = 2 ∨ i = 3 ∨ i = 7 ∨ 36 ≤ i) → z' i = z i
theorem shC_sg {sg sg' z : RI} (h0 : sg 0 = sg' 0) (h2 : sg 2 = sg' 2) : shC sg z = shC sg' z := by
  unfold shC shS; rw [h0, h2]
theorem miY_eq {z : RI} (h : FZ z) : miY z = miA (sgR z) z ∧ FZ (miY z) ∧ frM z (miY z) ∧ miY z 0 = z 0 + 1 ∧ minMR z = minR (sgR z) z := by
  obtain ⟨q1, q2, q3⟩ := mi_eq h
  have q4 : miY z = shC (sgR (mi4M z).1) (mi4M z).1 := shM_eq q3
  have n4 : ∀ i, (i = 1 ∨ i = 2 ∨ i = 3 ∨ i = 6 ∨ i = 7 ∨ 36 ≤ i) → (mi4M z).1 i = z i := by
    intro i hi
    rw [q1, mi4_n (by omega), up_n (by omega)]
  have q5 : miY z = miA (sgR z) z := by
    have s0 : sgR (mi4M z).1 0 = sgR z 0 := by unfold sgR; exact n4 (1 + 0) (by omega)
    have s2 : sgR (mi4M z).1 2 = sgR z 2 := by unfold sgR; exact n4 (1 + 2) (by omega)
    have s3 : sgR z 0 = z 1 := rfl
    rw [q4, shC_sg s0 s2, q1]
    unfold miA
    rw [s3]
  refine ⟨q5, by rw [q4]; exact shC_F q3, fun i hi => ?_, ?_, q2⟩
  · rw [q4, shC_n (by omega) (by omega) (by omega) (by omega) (by omega) (by omega)]
    exact n4 i (by omega)
  · rw [q4, shC_n (by omega) (by omega) (by omega) (by omega) (by omega) (by omega), q1, mi4_n (by omega), up_s]
/-- the reference's row and the keepers: what each minute keeps -/
def TOK (t cn : Nat) (sf wf z : RI) (S R : Nat → Nat) : Prop := FZ z ∧ z 0 = nI t ∧ z 7 = nI cn ∧ cn ≤ 6 ∧ KR cn sf wf z S R
theorem rz_eq {t cn : Nat} {sf wf z : RI} {S R : Nat → Nat} (h : TOK t cn sf wf z S R) (ht : t < 2 ^ 30) (h1 : 1 ≤ cn) : rzM cn z = rsZ cn z sf wf (sgR z) ∧ rrM cn z = rsR cn z sf wf (sgR z) ∧ FZ (rzM cn z) ∧ frM z (rzM cn z) ∧ rzM cn z 0 = z 0 := by
  obtain ⟨hF, h0, h7, hc, hK⟩ := h
  obtain ⟨k1, d, hd, ed⟩ := tok_due (x := z) hK h1 ht h0 rfl
  obtain ⟨l1, l2⟩ := rl_eq hd 4 8 z 0 (by omega) (by omega) hF
  have hn : ¬ tok cn z sf wf = -1000 := by rw [k1, ed]; exact ne1000 (by omega)
  have e1 : rzM cn z = rsZ cn z sf wf (sgR z) := by
    unfold rzM rsZ
    rw [if_neg hn, k1, ed, l1]; rfl
  have e2 : rrM cn z = rsR cn z sf wf (sgR z) := by
    unfold rrM rsR
    rw [if_neg hn, k1, ed, l1]; rfl
  have e3 : rzM cn z = upd (rsL (nI d) (z 2) 4 8 z 0).1 6 ((rsL (nI d) (z 2) 4 8 z 0).1 6 + (rsL (nI d) (z 2) 4 8 z 0).2) := by
    unfold rzM; rw [ed, l1]
  refine ⟨e1, e2, by rw [e3]; exact l2.up (by omega), fun i hi => ?_, ?_⟩
  · rw [e3, up_n (by omega)]; exact rsL_n (by omega) _ _ _ _ (by omega) (by omega)
  · rw [e3, up_n (by omega)]; exact rsL_n (by omega) _ _ _ _ (by omega) (by omega)
theorem min_eq {t cn : Nat} {sf wf z : RI} {S R : Nat → Nat} (h : TOK t cn sf wf z S R) (ht : t + 1 < 2 ^ 30) : minM cn z = minZ cn z sf wf (sgR z) ∧ minMR z = minR (sgR z) z ∧ frM z (minM cn z) ∧ TOK (t + 1) cn sf wf (minM cn z) S R := by
  obtain ⟨hF, h0, h7, hc, hK⟩ := h
  obtain ⟨y1, y2, y3, y4, y5⟩ := miY_eq hF
  have y7 : miY z 7 = nI cn := (y3 7 (by omega)).trans h7
  have y0 : miY z 0 = nI (t + 1) := by rw [y4, h0, nI_1]
  have yK : KR cn sf wf (miY z) S R := hK.mv (fun i hi => y3 i (by omega))
  have yT : TOK (t + 1) cn sf wf (miY z) S R := ⟨y2, y0, y7, hc, yK⟩
  have key : minM cn z = minZ cn z sf wf (sgR z) ∧ frM z (minM cn z) ∧ TOK (t + 1) cn sf wf (minM cn z) S R := by
    unfold minM minZ
    rw [← y1]
    by_cases g : jrem (miY z 0) 1440 = 720
    · rw [if_pos g, if_pos g]
      by_cases g1 : cn = 0
      · subst g1
        rw [if_pos (by rw [y7]; decide)]
        exact ⟨(show rsZ 0 (miY z) sf wf (sgR z) = miY z from if_pos tok_none).symm, y3, yT⟩
      · rw [if_neg (by rw [y7]; exact nI_nle (by omega) (by omega))]
        obtain ⟨r1, r2, r3, r4, r5⟩ := rz_eq yT (by omega) (by omega)
        have hsg : rsZ cn (miY z) sf wf (sgR (miY z)) = rsZ cn (miY z) sf wf (sgR z) := by
          unfold rsZ; rw [show sgR (miY z) 1 = sgR z 1 from by unfold sgR; exact y3 (1 + 1) (by omega)]
        refine ⟨r1.trans hsg, fun i hi => (r4 i hi).trans (y3 i hi), r3, r5.trans y0, (r4 7 (by omega)).trans y7, hc, yK.mv (fun i hi => r4 i (by omega))⟩
    · rw [if_neg g, if_neg g]
      exact ⟨rfl, y3, yT⟩
  exact ⟨key.1, y5, key.2.1, key.2.2⟩
/-- the class's minute goes along -/
theorem mi4_eq {x z : RI} {ld : Int32} (h : eqT x z) : eqT (mi4 ld x) (mi4 ld z) := by
  unfold mi4
  exact (turnC_eq (turnC_eq (turnC_eq (turnC_eq h (by omega) (by omega)).1 (by omega) (by omega)).1 (by omega) (by omega)).1 (by omega) (by omega)).1
theorem miA_eq {x z sg sg' : RI} (h : eqT x z) (h0 : sg 0 = sg' 0) (h2 : sg 2 = sg' 2) : eqT (miA sg x) (miA sg' z) := by
  unfold miA
  rw [h0]
  exact shC_eq (mi4_eq (h.up _ (by rw [h 0 (by omega)]))) h0 h2
theorem minZ_eq {x z sf wf sg sg' : RI} {cn : Nat} (h : eqT x z) (hs : ∀ k, k < 3 → sg k = sg' k) : eqT (minZ cn x sf wf sg) (minZ cn z sf wf sg') ∧ minR sg x = minR sg' z := by
  have hA := miA_eq h (hs 0 (by omega)) (hs 2 (by omega))
  have hA0 := hA 0 (by omega)
  refine ⟨?_, ?_⟩
  · unfold minZ
    rw [hA0]
    by_cases g : jrem (miA sg' z 0) 1440 = 720
    · rw [if_pos g, if_pos g]
      unfold rsZ
      rw [tok_x hA0, hs 1 (by omega)]
      by_cases g2 : tok cn (miA sg' z) sf wf = -1000
      · rw [if_pos g2, if_pos g2]; exact hA
      · rw [if_neg g2, if_neg g2]
        obtain ⟨a, b⟩ := rsL_eq (due := tok cn (miA sg' z) sf wf) (tol := sg' 1) 4 8 _ _ 0 (by omega) (by omega) hA
        exact a.up _ (by rw [a 6 (by omega), b])
    · rw [if_neg g, if_neg g]; exact hA
  · have u0 : eqT (upd x 0 (x 0 + 1)) (upd z 0 (z 0 + 1)) := h.up _ (by rw [h 0 (by omega)])
    have u1 := turnC_eq (ld := sg' 0) (o := 8) u0 (by omega) (by omega)
    have u2 := turnC_eq (ld := sg' 0) (o := 15) u1.1 (by omega) (by omega)
    have u3 := turnC_eq (ld := sg' 0) (o := 22) u2.1 (by omega) (by omega)
    have u4 := turnC_eq (ld := sg' 0) (o := 29) u3.1 (by omega) (by omega)
    unfold minR
    rw [hs 0 (by omega), u1.2, u2.2, u3.2, u4.2]
/-- one tower on both sides: t its time, cn its keepers -/
def RTx (t cn : Nat) (x sf wf sg z : RI) (S R : Nat → Nat) : Prop := eqT x z ∧ (∀ k, k < 3 → sg k = z (1 + k)) ∧ TOK t cn sf wf z S R
theorem RTx.min {t cn : Nat} {x sf wf sg z : RI} {S R : Nat → Nat} (h : RTx t cn x sf wf sg z S R) (ht : t + 1 < 2 ^ 30) : RTx (t + 1) cn (minZ cn x sf wf sg) sf wf sg (minM cn z) S R ∧ minR sg x = minMR z := by
  obtain ⟨h1, h2, h3⟩ := h
  obtain ⟨m1, m2, m3, m4⟩ := min_eq h3 ht
  obtain ⟨c1, c2⟩ := minZ_eq (cn := cn) (sf := sf) (wf := wf) (sg' := sgR z) h1 h2
  exact ⟨⟨by rw [m1]; exact c1, fun k hk => (h2 k hk).trans (m3 (1 + k) (by omega)).symm, m4⟩, c2.trans m2.symm⟩
/-- minutes -/
theorem RTx.mins : ∀ (n : Nat) {t cn : Nat} {x sf wf sg z : RI} {S R : Nat → Nat} (q : Int32), RTx t cn x sf wf sg z S R → t + n < 2 ^ 30 → RTx (t + n) cn (pmsC cn sf wf sg n x q).1 sf wf sg (pmsM cn n z q).1 S R ∧ (pmsC cn sf wf sg n x q).2 = (pmsM cn n z q).2 := by
  intro n
  induction n with
  | zero => exact fun q h _ => ⟨h, rfl⟩
  | succ n ih =>
    intro t cn x sf wf sg z S R q h ht
    obtain ⟨a, b⟩ := h.min (by omega)
    have r := ih (q + minMR z) a (by omega)
    rw [show pmsC cn sf wf sg (n + 1) x q = pmsC cn sf wf sg n (minZ cn x sf wf sg) (q + minR sg x) from rfl, show pmsM cn (n + 1) z q = pmsM cn n (minM cn z) (q + minMR z) from rfl, b, show t + (n + 1) = t + 1 + n by omega]
    exact r

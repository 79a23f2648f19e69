/-! PURE PART: a work, read by both sides -/
def SX (sg B : RI) (Y : Nat) : Prop := Y ≤ 60 ∧ ∀ j, j < Y → sg j = B j ∧ ∃ k, 33 ≤ k ∧ k ≤ 126 ∧ B j = nI k
theorem lt_in {B : RI} {Y s : Nat} (h : s < Y) (hy : Y ≤ 60) : ltM B Y s = B s := if_neg (nI_ge h (by omega))
theorem lt_out {B : RI} {Y s : Nat} (h : Y ≤ s) (hs : s < 2 ^ 31) : ltM B Y s = -1000 := if_pos (nI_le h hs)
theorem wt_1 {b : Int32} {p : Nat} (h : ¬ b = 0) : wtM b (p, -1000) = (p + 1, -1000) := (if_pos rfl).trans (by rw [if_neg h])
theorem wt_0 {b : Int32} {p : Nat} (h : b = 0) : wtM b (p, -1000) = (p + 1, nI p) := (if_pos rfl).trans (by rw [if_pos h])
theorem wt_f {b : Int32} {u : Nat × Int32} (h : ¬ u.2 = -1000) : wtM b u = u := if_neg h
theorem isw_neg {a b : Nat} (ha : a ≤ 9) : isw (-1048) (nI a) (nI b) = 0 := by
  refine if_pos ?_
  refine Int32.lt_iff_toInt_lt.mpr ?_
  rw [nI_toInt (by omega)]
  show (-1048 : Int) < a
  omega
theorem dig {sg B : RI} {Y : Nat} (h : SX sg B Y) {p a b : Nat} {A C : Int32} (hA : A = nI a) (hC : C = nI b) (ha : a ≤ 9) (hb : b ≤ 9) (hp : p ≤ Y) :
    (∃ d, a ≤ d ∧ d ≤ b ∧ p < Y ∧ fgM B Y p = nI d ∧ rdF sg Y A C p = (nI d, p + 1) ∧ ¬ isw (fgM B Y p) A C = 0) ∨ (rdF sg Y A C p = (-1, p) ∧ isw (fgM B Y p) A C = 0) := by
  subst hA; subst hC
  obtain ⟨hY, hX⟩ := h
  by_cases g : p < Y
  · have e1 : fgM B Y p = B p - 48 := by unfold fgM; rw [lt_in g hY]
    obtain ⟨e2, -⟩ := hX p g
    by_cases i : isw (B p - 48) (nI a) (nI b) = 0
    · refine Or.inr ⟨(if_pos g).trans (if_pos (by rw [e2]; exact i)), by rw [e1]; exact i⟩
    · obtain ⟨d, d1, d2, d3⟩ := isw_lo (by omega) i (by omega)
      refine Or.inl ⟨d, d1, d2, g, by rw [e1]; exact d3, ?_, by rw [e1]; exact i⟩
      refine (if_pos g).trans ((if_neg (by rw [e2]; exact i)).trans ?_)
      rw [e2, d3]
  · have e1 : fgM B Y p = -1048 := by unfold fgM; rw [lt_out (by omega) (by omega)]; rfl
    exact Or.inr ⟨if_neg g, by rw [e1]; exact isw_neg ha⟩
theorem sig1 {sg B : RI} {Y : Nat} (h : SX sg B Y) {p : Nat} {x : Int32} (hx : ¬ x = -1000) (hp : p ≤ Y) : (p < Y ∧ ltM B Y p = x ∧ rsF sg Y x p = (1, p + 1)) ∨ (¬ ltM B Y p = x ∧ rsF sg Y x p = (0, p)) := by
  obtain ⟨hY, hX⟩ := h
  by_cases g : p < Y
  · obtain ⟨e2, -⟩ := hX p g
    by_cases i : B p = x
    · exact Or.inl ⟨g, by rw [lt_in g hY]; exact i, (if_pos g).trans (if_pos (by rw [e2]; exact i))⟩
    · exact Or.inr ⟨by rw [lt_in g hY]; exact i, (if_pos g).trans (if_neg (by rw [e2]; exact i))⟩
  · exact Or.inr ⟨by rw [lt_out (by omega) (by omega)]; exact fun e => hx e.symm, if_neg g⟩
/-- the clock -/
theorem clkU_4 {B : RI} {Y : Nat} {u : Nat × Int32} (h : ¬ (ck4 B Y u).2 = -1000) : clkU B Y u = ck4 B Y u := wt_f h
theorem clkU_3 {B : RI} {Y : Nat} {u : Nat × Int32} (h : ¬ (ck3 B Y u).2 = -1000) : clkU B Y u = ck3 B Y u := by
  have q : ck4 B Y u = ck3 B Y u := wt_f h
  rw [clkU_4 (by rw [q]; exact h), q]
theorem clkU_2 {B : RI} {Y : Nat} {u : Nat × Int32} (h : ¬ (ck2 B Y u).2 = -1000) : clkU B Y u = ck2 B Y u := by
  have q : ck3 B Y u = ck2 B Y u := wt_f h
  rw [clkU_3 (by rw [q]; exact h), q]
theorem clkU_1 {B : RI} {Y : Nat} {u : Nat × Int32} (h : ¬ (ck1 B Y u).2 = -1000) : clkU B Y u = ck1 B Y u := by
  have q : ck2 B Y u = ck1 B Y u := wt_f h
  rw [clkU_2 (by rw [q]; exact h), q]
theorem clkU_0 {B : RI} {Y : Nat} {u : Nat × Int32} (h : ¬ u.2 = -1000) : clkU B Y u = u := by
  have q : ck1 B Y u = u := wt_f h
  rw [clkU_1 (by rw [q]; exact h), q]
theorem hr_hi (d1 : Nat) (h : d1 ≤ 9) : (if (nI d1 : Int32) = 2 then (3 : Int32) else 9) = nI (if d1 = 2 then 3 else 9) := by
  by_cases g : d1 = 2
  · subst g; rfl
  · rw [if_neg (fun e => g ((za_eq (y := 2) (b := 2) rfl rfl (by omega) (by decide)).mp e)), if_neg g]; rfl
theorem clk {sg B : RI} {Y : Nat} (h : SX sg B Y) {p : Nat} (hp : p ≤ Y) (ck : Int32) :
    (∃ c, c < 1440 ∧ p + 5 ≤ Y ∧ rcF sg Y ck p = (1, p + 5, nI c) ∧ clkU B Y (p, -1000) = (p + 5, -1000) ∧ clkV B Y (p, -1000) = nI c) ∨ (∃ e, e ≤ Y ∧ rcF sg Y ck p = (0, e, ck) ∧ (clkU B Y (p, -1000)).2 = nI e) := by
  have hY := h.1
  rcases dig h (a := 0) (b := 2) (A := 0) (C := 2) rfl rfl (by omega) (by omega) hp with ⟨d1, -, b1, l1, f1, r1, i1⟩ | ⟨r1, i1⟩
  case inr =>
    have k1 : ck1 B Y (p, -1000) = (p + 1, nI p) := wt_0 i1
    have n1 : ¬ (ck1 B Y (p, -1000)).2 = -1000 := by rw [k1]; exact ne1000 (by omega)
    refine Or.inr ⟨p, hp, ?_, by rw [clkU_1 n1, k1]⟩
    unfold rcF
    rw [r1]
    exact if_neg (show ¬ (0 : Int32) ≤ -1 by decide)
  have k1 : ck1 B Y (p, -1000) = (p + 1, -1000) := wt_1 i1
  have hi := hr_hi d1 (by omega)
  rcases dig h (a := 0) (b := if d1 = 2 then 3 else 9) (A := 0) (C := if (nI d1 : Int32) = 2 then 3 else 9) rfl hi (by omega) (by split <;> omega) (p := p + 1) (by omega) with ⟨d2, -, b2, l2, f2, r2, i2⟩ | ⟨r2, i2⟩
  case inr =>
    have k2 : ck2 B Y (p, -1000) = (p + 2, nI (p + 1)) := by
      show figU B Y (if fgM B Y p = 2 then 3 else 9) (ck1 B Y (p, -1000)) = _
      rw [k1, f1]; exact wt_0 i2
    have n2 : ¬ (ck2 B Y (p, -1000)).2 = -1000 := by rw [k2]; exact ne1000 (by omega)
    have e2 : rc2 sg Y p = (-1, p + 1) := by unfold rc2; rw [r1]; exact r2
    refine Or.inr ⟨p + 1, by omega, ?_, by rw [clkU_2 n2, k2]⟩
    unfold rcF
    rw [r1, e2]
    exact (if_pos (nI_pos' (by omega))).trans (if_pos (show (-1 : Int32) < 0 by decide))
  have k2 : ck2 B Y (p, -1000) = (p + 2, -1000) := by
    show figU B Y (if fgM B Y p = 2 then 3 else 9) (ck1 B Y (p, -1000)) = _
    rw [k1, f1]; exact wt_1 i2
  have e2 : rc2 sg Y p = (nI d2, p + 2) := by unfold rc2; rw [r1]; exact r2
  rcases sig1 h (x := 58) (by decide) (p := p + 2) (by omega) with ⟨l3, s3, r3⟩ | ⟨s3, r3⟩
  case inr =>
    have k3 : ck3 B Y (p, -1000) = (p + 3, nI (p + 2)) := by
      show wtM (if ltM B Y (ck2 B Y (p, -1000)).1 = 58 then 1 else 0) (ck2 B Y (p, -1000)) = _
      rw [k2]; exact wt_0 (if_neg s3)
    have n3 : ¬ (ck3 B Y (p, -1000)).2 = -1000 := by rw [k3]; exact ne1000 (by omega)
    have e3 : rc3 sg Y p = (0, p + 2) := by unfold rc3; rw [e2]; exact r3
    refine Or.inr ⟨p + 2, by omega, ?_, by rw [clkU_3 n3, k3]⟩
    unfold rcF
    rw [r1, e2, e3]
    exact (if_pos (nI_pos' (by omega))).trans ((if_neg (nI_pos (by split at b2 <;> omega))).trans (if_pos rfl))
  have k3 : ck3 B Y (p, -1000) = (p + 3, -1000) := by
    show wtM (if ltM B Y (ck2 B Y (p, -1000)).1 = 58 then 1 else 0) (ck2 B Y (p, -1000)) = _
    rw [k2]; exact wt_1 (by rw [if_pos s3]; decide)
  have e3 : rc3 sg Y p = (1, p + 3) := by unfold rc3; rw [e2]; exact r3
  rcases dig h (a := 0) (b := 5) (A := 0) (C := 5) rfl rfl (by omega) (by omega) (p := p + 3) (by omega) with ⟨d4, -, b4, l4, f4, r4, i4⟩ | ⟨r4, i4⟩
  case inr =>
    have k4 : ck4 B Y (p, -1000) = (p + 4, nI (p + 3)) := by
      show figU B Y 5 (ck3 B Y (p, -1000)) = _
      rw [k3]; exact wt_0 i4
    have n4 : ¬ (ck4 B Y (p, -1000)).2 = -1000 := by rw [k4]; exact ne1000 (by omega)
    have e4 : rc4 sg Y p = (-1, p + 3) := by unfold rc4; rw [e3]; exact r4
    refine Or.inr ⟨p + 3, by omega, ?_, by rw [clkU_4 n4, k4]⟩
    unfold rcF
    rw [r1, e2, e3, e4]
    exact (if_pos (nI_pos' (by omega))).trans ((if_neg (nI_pos (by split at b2 <;> omega))).trans ((if_neg (show ¬ (1 : Int32) = 0 by decide)).trans (if_neg (show ¬ (0 : Int32) ≤ -1 by decide))))
  have k4 : ck4 B Y (p, -1000) = (p + 4, -1000) := by
    show figU B Y 5 (ck3 B Y (p, -1000)) = _
    rw [k3]; exact wt_1 i4
  have e4 : rc4 sg Y p = (nI d4, p + 4) := by unfold rc4; rw [e3]; exact r4
  rcases dig h (a := 0) (b := 9) (A := 0) (C := 9) rfl rfl (by omega) (by omega) (p := p + 4) (by omega) with ⟨d5, -, b5, l5, f5, r5, i5⟩ | ⟨r5, i5⟩
  case inr =>
    have k5 : clkU B Y (p, -1000) = (p + 5, nI (p + 4)) := by
      show figU B Y 9 (ck4 B Y (p, -1000)) = _
      rw [k4]; exact wt_0 i5
    have e5 : rc5 sg Y p = (-1, p + 4) := by unfold rc5; rw [e4]; exact r5
    refine Or.inr ⟨p + 4, by omega, ?_, by rw [k5]⟩
    unfold rcF
    rw [r1, e2, e3, e4, e5]
    exact (if_pos (nI_pos' (by omega))).trans ((if_neg (nI_pos (by split at b2 <;> omega))).trans ((if_neg (show ¬ (1 : Int32) = 0 by decide)).trans ((if_pos (nI_pos' (by omega))).trans (if_neg (show ¬ (0 : Int32) ≤ -1 by decide)))))
  have k5 : clkU B Y (p, -1000) = (p + 5, -1000) := by
    show figU B Y 9 (ck4 B Y (p, -1000)) = _
    rw [k4]; exact wt_1 i5
  have e5 : rc5 sg Y p = (nI d5, p + 5) := by unfold rc5; rw [e4]; exact r5
  have val : ((60 * ((10 * nI d1) + nI d2)) + (10 * nI d4)) + nI d5 = nI (60 * (10 * d1 + d2) + 10 * d4 + d5) := by
    rw [show (60 : Int32) = nI 60 from rfl, show (10 : Int32) = nI 10 from rfl, pk_mul, nI_add, pk_mul, pk_mul, nI_add, nI_add]
  refine Or.inl ⟨60 * (10 * d1 + d2) + 10 * d4 + d5, ?_, by omega, ?_, k5, ?_⟩
  · by_cases g : d1 = 2
    · rw [if_pos g] at b2; omega
    · rw [if_neg g] at b2; omega
  · unfold rcF
    rw [r1, e2, e3, e4, e5]
    exact (if_pos (nI_pos' (by omega))).trans ((if_neg (nI_pos (by split at b2 <;> omega))).trans ((if_neg (show ¬ (1 : Int32) = 0 by decide)).trans ((if_pos (nI_pos' (by omega))).trans ((if_pos (nI_pos' (by omega))).trans (by rw [val])))))
  · unfold clkV
    rw [k1, k3, k4]
    show ((60 * ((10 * fgM B Y p) + fgM B Y (p + 1))) + (10 * fgM B Y (p + 3))) + fgM B Y (p + 4) = _
    rw [f1, f2, f4, f5]; exact val
/-- a number -/
theorem jmin9 {mo v : Nat} (hm : mo < 100000) (hv : v < 100000) {d : Nat} (hd : d ≤ 9) : isw (nI d) 0 (jmin 9 (nI mo - 10 * nI v)) = 0 ↔ mo < 10 * v + d := by
  have e1 : (10 : Int32) * nI v = nI (10 * v) := pk_mul 10 v
  rw [e1]
  by_cases g : 10 * v ≤ mo
  · rw [pk_sub g]
    have e2 : jmin 9 (nI (mo - 10 * v)) = nI (min 9 (mo - 10 * v)) := by
      show (if nI (mo - 10 * v) < 9 then nI (mo - 10 * v) else 9) = _
      by_cases g2 : mo - 10 * v < 9
      · rw [if_pos ((za_lt (y := 9) (b := 9) rfl rfl (by omega) (by decide)).mpr g2), Nat.min_eq_right (by omega)]
      · rw [if_neg (fun w => g2 ((za_lt (y := 9) (b := 9) rfl rfl (by omega) (by decide)).mp w)), Nat.min_eq_left (by omega)]; rfl
    rw [e2]
    unfold isw
    rw [if_neg (nI_pos (by omega))]
    by_cases g3 : min 9 (mo - 10 * v) < d
    · rw [if_pos (nI_lt g3 (by omega))]
      exact ⟨fun _ => by omega, fun _ => rfl⟩
    · rw [if_neg (nI_nlt (by omega) (by omega))]
      exact ⟨fun w => absurd w (by decide), fun w => absurd w (by omega)⟩
  · have n1 : nI mo - nI (10 * v) < 0 := pk_sneg (by omega) (by omega)
    have e2 : jmin 9 (nI mo - nI (10 * v)) = nI mo - nI (10 * v) := if_pos (Int32.lt_iff_toInt_lt.mpr (Int.lt_trans (Int32.lt_iff_toInt_lt.mp n1) (by decide)))
    rw [e2]
    unfold isw
    rw [if_neg (nI_pos (by omega)), if_pos (Int32.lt_iff_toInt_lt.mpr (Int.lt_of_lt_of_le (Int32.lt_iff_toInt_lt.mp n1) (Int32.le_iff_toInt_le.mp (nI_pos' (by omega)))))]
    exact ⟨fun _ => by omega, fun _ => rfl⟩
theorem num_loop {sg B : RI} {Y mo : Nat} (h : SX sg B Y) (hmo : mo ≤ 2000) : ∀ (n m s v : Nat), m = Y - s → s ≤ Y → 1 ≤ v → v ≤ mo → n ≤ 3 → 10 ^ (3 - n) ≤ v →
    ∃ v' s', rnL sg Y (nI mo) n s (nI v) = (nI v', s') ∧ nuL B Y (nI mo) m s (nI v) = (s', nI v') ∧ 1 ≤ v' ∧ v' ≤ mo ∧ s ≤ s' ∧ s' ≤ Y := by
  intro n
  induction n with
  | zero =>
    intro m s v hm hs h1 hv hn hp
    refine ⟨v, s, rfl, ?_, h1, hv, Nat.le_refl s, hs⟩
    have hp' : 1000 ≤ v := hp
    cases m with
    | zero => rfl
    | succ m =>
      by_cases g : isw (fgM B Y s) 0 9 = 0
      · exact if_pos g
      · refine (if_neg g).trans (if_pos ?_)
        obtain ⟨d, -, hd, ed⟩ := isw_lo (a := 0) (b := 9) (by decide) g (by decide)
        rw [ed, show (10 : Int32) * nI v = nI (10 * v) from pk_mul 10 v, nI_add]
        exact nI_lt (by omega) (by omega)
  | succ n ih =>
    intro m s v hm hs h1 hv hn hp
    have d1 : rnL sg Y (nI mo) (n + 1) s (nI v) = if nI v ≤ 0 then (nI v, s) else if 0 ≤ (rdF sg Y 0 (jmin 9 (nI mo - 10 * nI v)) s).1 then rnL sg Y (nI mo) n (rdF sg Y 0 (jmin 9 (nI mo - 10 * nI v)) s).2 (10 * nI v + (rdF sg Y 0 (jmin 9 (nI mo - 10 * nI v)) s).1) else (nI v, (rdF sg Y 0 (jmin 9 (nI mo - 10 * nI v)) s).2) := rfl
    have p1 : ¬ nI v ≤ 0 := nI_nle (by omega) (by omega)
    -- when both stop here
    have stop : isw (fgM B Y s) 0 (jmin 9 (nI mo - 10 * nI v)) = 0 ∨ Y ≤ s → nuL B Y (nI mo) m s (nI v) = (s, nI v) → ∃ v' s', rnL sg Y (nI mo) (n + 1) s (nI v) = (nI v', s') ∧ nuL B Y (nI mo) m s (nI v) = (s', nI v') ∧ 1 ≤ v' ∧ v' ≤ mo ∧ s ≤ s' ∧ s' ≤ Y := by
      intro q1 q2
      have e : rdF sg Y 0 (jmin 9 (nI mo - 10 * nI v)) s = (-1, s) := by
        by_cases g : s < Y
        · rcases q1 with q1 | q1
          · refine (if_pos g).trans (if_pos ?_)
            have e1 : fgM B Y s = B s - 48 := by unfold fgM; rw [lt_in g h.1]
            rw [(h.2 s g).1, ← e1]; exact q1
          · omega
        · exact if_neg g
      refine ⟨v, s, ?_, q2, h1, hv, Nat.le_refl s, hs⟩
      rw [d1, if_neg p1, e]
      exact if_neg (show ¬ (0 : Int32) ≤ -1 by decide)
    by_cases g : s < Y
    · obtain ⟨m', rfl⟩ : ∃ m', m = m' + 1 := ⟨m - 1, by omega⟩
      have e1 : fgM B Y s = B s - 48 := by unfold fgM; rw [lt_in g h.1]
      by_cases g2 : isw (fgM B Y s) 0 9 = 0
      · refine stop (Or.inl ?_) (if_pos g2)
        -- no digit at all
        unfold isw at g2 ⊢
        by_cases c1 : fgM B Y s < 0
        · rw [if_pos c1]
        · rw [if_neg c1] at g2 ⊢
          by_cases c2 : (9 : Int32) < fgM B Y s
          · have c3 : jmin 9 (nI mo - 10 * nI v) ≤ 9 := by
              show (if nI mo - 10 * nI v < 9 then nI mo - 10 * nI v else 9) ≤ 9
              split
              · rename_i w; exact Int32.le_iff_toInt_le.mpr (Int.le_of_lt (Int32.lt_iff_toInt_lt.mp w))
              · exact Int32.le_iff_toInt_le.mpr (Int.le_refl _)
            rw [if_pos (Int32.lt_iff_toInt_lt.mpr (Int.lt_of_le_of_lt (Int32.le_iff_toInt_le.mp c3) (Int32.lt_iff_toInt_lt.mp c2)))]
          · rw [if_neg c2] at g2; exact absurd g2 (by decide)
      · obtain ⟨d, -, hd, ed⟩ := isw_lo (a := 0) (b := 9) (by decide) g2 (by decide)
        have ev : (10 : Int32) * nI v + nI d = nI (10 * v + d) := by rw [show (10 : Int32) * nI v = nI (10 * v) from pk_mul 10 v, nI_add]
        have j9 := jmin9 (mo := mo) (v := v) (by omega) (by omega) hd
        by_cases g3 : mo < 10 * v + d
        · refine stop (Or.inl (by rw [ed]; exact j9.mpr g3)) ((if_neg g2).trans (if_pos ?_))
          rw [ed, ev]; exact nI_lt g3 (by omega)
        · have q2 : nuL B Y (nI mo) (m' + 1) s (nI v) = nuL B Y (nI mo) m' (s + 1) (nI (10 * v + d)) := by
            refine (if_neg g2).trans ((if_neg ?_).trans ?_)
            · rw [ed, ev]; exact nI_nlt (by omega) (by omega)
            · rw [ed, ev]
          have q3 : rdF sg Y 0 (jmin 9 (nI mo - 10 * nI v)) s = (nI d, s + 1) := by
            refine (if_pos g).trans ((if_neg ?_).trans ?_)
            · rw [(h.2 s g).1, ← e1, ed]; exact fun w => g3 (j9.mp w)
            · rw [(h.2 s g).1, ← e1, ed]
          have q4 : rnL sg Y (nI mo) (n + 1) s (nI v) = rnL sg Y (nI mo) n (s + 1) (nI (10 * v + d)) := by
            rw [d1, if_neg p1, q3]
            refine (if_pos (nI_pos' (by omega))).trans ?_
            show rnL sg Y (nI mo) n (s + 1) (10 * nI v + nI d) = _
            rw [ev]
          have hpow : 10 ^ (3 - n) ≤ 10 * v + d := by
            have e3 : 3 - n = (3 - (n + 1)) + 1 := by omega
            rw [e3, Nat.pow_succ]; omega
          obtain ⟨v', s', a1, a2, a3, a4, a5, a6⟩ := ih m' (s + 1) (10 * v + d) (by omega) (by omega) (by omega) (by omega) (by omega) hpow
          exact ⟨v', s', q4.trans a1, q2.trans a2, a3, a4, by omega, a6⟩
    · refine stop (Or.inr (by omega)) ?_
      rw [show m = 0 by omega]; rfl
theorem num {sg B : RI} {Y mo a : Nat} {A : Int32} (h : SX sg B Y) (hmo : mo ≤ 2000) (h9 : 9 ≤ mo) (ha : a ≤ 1) (hA : A = nI a) {p : Nat} (hp : p ≤ Y) :
    (∃ v s', rnF sg Y A (nI mo) p = (1, s', nI v) ∧ numP B Y A (nI mo) (p, -1000) = (s', nI v) ∧ (nuU B Y A (p, -1000)).2 = -1000 ∧ v ≤ mo ∧ p < s' ∧ s' ≤ Y) ∨ (rnF sg Y A (nI mo) p = (0, p, -1) ∧ (nuU B Y A (p, -1000)).2 = nI p) := by
  have hY := h.1
  rcases dig h (a := a) (b := 9) (A := A) (C := 9) hA rfl (by omega) (by omega) hp with ⟨d, b0, b1, l1, f1, r1, i1⟩ | ⟨r1, i1⟩
  · have k1 : nuU B Y A (p, -1000) = (p + 1, -1000) := wt_1 i1
    have e1 : numP B Y A (nI mo) (p, -1000) = if fgM B Y p ≤ 0 then (p + 1, fgM B Y p) else nuL B Y (nI mo) (Y - (p + 1)) (p + 1) (fgM B Y p) := by
      unfold numP
      rw [k1]
      exact if_pos rfl
    have e2 : rnF sg Y A (nI mo) p = (1, (rnL sg Y (nI mo) 3 (p + 1) (nI d)).2, (rnL sg Y (nI mo) 3 (p + 1) (nI d)).1) := by
      unfold rnF
      rw [r1]
      exact if_pos (nI_pos' (by omega))
    rw [e1, e2, f1]
    by_cases g : d = 0
    · subst g
      refine Or.inl ⟨0, p + 1, rfl, if_pos (by decide), by rw [k1], by omega, by omega, by omega⟩
    · rw [if_neg (nI_nle (by omega) (by omega))]
      obtain ⟨v', s', a1, a2, a3, a4, a5, a6⟩ := num_loop h hmo 3 (Y - (p + 1)) (p + 1) d rfl (by omega) (by omega) (by omega) (by omega) (by show 1 ≤ d; omega)
      rw [a1]
      exact Or.inl ⟨v', s', rfl, a2, by rw [k1], a4, by omega, a6⟩
  · have k1 : nuU B Y A (p, -1000) = (p + 1, nI p) := wt_0 i1
    refine Or.inr ⟨?_, by rw [k1]⟩
    unfold rnF
    rw [r1]
    exact if_neg (show ¬ (0 : Int32) ≤ -1 by decide)

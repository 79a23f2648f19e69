/-! PURE PART: one work of the text -/
/-- what the reference has told of a work against what the class's reader holds (kind, face, clock, number) -/
def TokR (O : RI) (j : Nat) (v : Int32 × Int32 × Int32 × Int32) : Prop := O j = v.1 ∧
  (((v.1 = 98 ∨ v.1 = 111) ∧ ∃ f, f ≤ 3 ∧ v.2.1 = nI f ∧ O (j + 1) = nI f) ∨ (v.1 = 102 ∧ ∃ f c, f ≤ 3 ∧ c < 1440 ∧ v.2.1 = nI f ∧ v.2.2.1 = nI c ∧ O (j + 1) = nI f ∧ O (j + 2) = nI (c % 720)) ∨
   (v.1 = 107 ∧ O (j + 1) = v.2.2.1 ∧ O (j + 2) = v.2.2.2) ∨ (v.1 = 119 ∧ ∃ mn, mn ≤ 2000 ∧ v.2.2.2 = nI mn ∧ O (j + 1) = nI mn))
theorem rwF_out {sg : RI} {Y : Nat} {u : RQ} (h : ¬ u.1 < Y) : rwF sg Y u = (0, u) := if_neg h
theorem rw_in {sg : RI} {Y p : Nat} {kd fc ck nu : Int32} (h : p < Y) : rwF sg Y (p, kd, fc, ck, nu) =
    if sg p = 98 then (rfB (rdF sg Y 0 3 (p + 1)).1, (rdF sg Y 0 3 (p + 1)).2, sg p, (rdF sg Y 0 3 (p + 1)).1, ck, nu)
    else if sg p = 102 then
      if rfB (rdF sg Y 0 3 (p + 1)).1 = 0 then (0, (rdF sg Y 0 3 (p + 1)).2, sg p, (rdF sg Y 0 3 (p + 1)).1, ck, nu)
      else ((rcF sg Y ck (rdF sg Y 0 3 (p + 1)).2).1, (rcF sg Y ck (rdF sg Y 0 3 (p + 1)).2).2.1, sg p, (rdF sg Y 0 3 (p + 1)).1, (rcF sg Y ck (rdF sg Y 0 3 (p + 1)).2).2.2, nu)
    else if sg p = 107 then
      if (rcF sg Y ck (p + 1)).1 = 0 then (0, (rcF sg Y ck (p + 1)).2.1, sg p, fc, (rcF sg Y ck (p + 1)).2.2, nu)
      else ((rgF sg Y nu (rcF sg Y ck (p + 1)).2.1).1, (rgF sg Y nu (rcF sg Y ck (p + 1)).2.1).2.1, sg p, fc, (rcF sg Y ck (p + 1)).2.2, (rgF sg Y nu (rcF sg Y ck (p + 1)).2.1).2.2)
    else if sg p = 111 then (rfB (rdF sg Y 0 3 (p + 1)).1, (rdF sg Y 0 3 (p + 1)).2, sg p, (rdF sg Y 0 3 (p + 1)).1, ck, nu)
    else if sg p = 119 then ((rnF sg Y 1 2000 (p + 1)).1, (rnF sg Y 1 2000 (p + 1)).2.1, sg p, fc, ck, (rnF sg Y 1 2000 (p + 1)).2.2)
    else (0, p, sg p, fc, ck, nu) := if_pos h
theorem rfB_n {d : Nat} (h : d < 2 ^ 31) : rfB (nI d) = 1 := if_neg (nI_pos h)
theorem rfB_m : rfB (-1) = 0 := if_pos (by decide)
/-- a face behind its letter -/
theorem rd_face {sg : RI} {Y p : Nat} {r : MS} (h : SX sg (mB r) Y) (hY : mY r = Y) (hA : rwA r = (p + 1, -1000)) (hp : p < Y) :
    (∃ f, f ≤ 3 ∧ p + 2 ≤ Y ∧ rdF sg Y 0 3 (p + 1) = (nI f, p + 2) ∧ rwF1 r = (p + 2, -1000) ∧ fgM (mB r) (mY r) (rwA r).1 = nI f) ∨ (rdF sg Y 0 3 (p + 1) = (-1, p + 1) ∧ rwF1 r = (p + 2, nI (p + 1))) := by
  rcases dig h (a := 0) (b := 3) (A := 0) (C := 3) rfl rfl (by omega) (by omega) (p := p + 1) (by omega) with ⟨d, -, b1, l1, f1, r1, i1⟩ | ⟨r1, i1⟩
  · refine Or.inl ⟨d, b1, by omega, r1, ?_, ?_⟩
    · rw [rwF1_e, hA, hY]; exact wt_1 i1
    · rw [hA, hY]; exact f1
  · refine Or.inr ⟨r1, ?_⟩
    rw [rwF1_e, hA, hY]; exact wt_0 i1
theorem neg1 (x : Int32) : -1 * x = -x := by rw [Int32.neg_mul, Int32.one_mul]
theorem rd_work {sg : RI} {Y p : Nat} {r : MS} {kd fc ck nu : Int32} (h : SX sg (mB r) Y) (hY : mY r = Y) (hW : mW r = -1000) (hS : mS r = p) (hp : p ≤ Y) :
    ((rwF sg Y (p, kd, fc, ck, nu)).1 = 1 ∧ mW (rwM r) = -1000 ∧ mS (rwM r) = (rwF sg Y (p, kd, fc, ck, nu)).2.1 ∧ (rwF sg Y (p, kd, fc, ck, nu)).2.1 ≤ Y ∧ TokR (mO (rwM r)) (3 * mT r) (rwF sg Y (p, kd, fc, ck, nu)).2.2) ∨
    ((rwF sg Y (p, kd, fc, ck, nu)).1 = 0 ∧ mW (rwM r) = nI (rwF sg Y (p, kd, fc, ck, nu)).2.1 ∧ (rwF sg Y (p, kd, fc, ck, nu)).2.1 ≤ Y) := by
  have h60 := h.1
  have uE : uM r = (p, -1000) := Prod.ext hS hW
  by_cases g : p < Y
  case neg =>
    rw [rwF_out (u := (p, kd, fc, ck, nu)) g]
    have hL : ltM (mB r) (mY r) (mS r) = -1000 := lt_out (by omega) (by omega)
    refine Or.inr ⟨rfl, ?_, hp⟩
    unfold rwM
    rw [hL, if_neg (by decide), if_neg (by decide), if_neg (by decide), if_neg (by decide), if_neg (by decide), rwG_W, uE]
    exact congrArg (fun q => q.2) (wt_0 (p := p) (b := 0) rfl)
  have hL : ltM (mB r) (mY r) (mS r) = mB r p := by rw [hS]; exact lt_in (by omega) (by omega)
  have hsg : sg p = mB r p := (h.2 p g).1
  have hA : rwA r = (p + 1, -1000) := by
    show wtM 1 (uM r) = _
    rw [uE]; exact wt_1 (by decide)
  rw [rw_in g, hsg]
  have o0 : ∀ (v : Int32) , upd (rwO r) (3 * mT r + 1) v (3 * mT r) = mB r p := by
    intro v
    rw [up_n (by omega)]
    show upd (mO r) (3 * mT r) (ltM (mB r) (mY r) (mS r)) (3 * mT r) = _
    rw [up_s, hL]
  have o0' : ∀ (v w : Int32) , upd (upd (rwO r) (3 * mT r + 1) v) (3 * mT r + 2) w (3 * mT r) = mB r p := by
    intro v w
    rw [up_n (by omega)]; exact o0 v
  by_cases c98 : mB r p = 98
  · rw [if_pos c98]
    have eM : rwM r = rwG r (upd (rwO r) (3 * mT r + 1) (fgM (mB r) (mY r) (rwA r).1)) (rwF1 r) := by
      unfold rwM
      rw [hL, if_neg (by rw [c98]; decide), if_neg (by rw [c98]; decide), if_neg (by rw [c98]; decide), if_neg (by rw [c98]; decide), if_pos c98]
    rw [eM, rwG_W, rwG_S]
    rcases rd_face h hY hA g with ⟨f, f1, f2, f3, f4, f5⟩ | ⟨f3, f4⟩
    · rw [f3, f4, f5, rfB_n (by omega)]
      exact Or.inl ⟨rfl, rfl, rfl, f2, o0 _, Or.inl ⟨Or.inl c98, f, f1, rfl, up_s _ _ _⟩⟩
    · rw [f3, f4, rfB_m]
      exact Or.inr ⟨rfl, rfl, by omega⟩
  rw [if_neg c98]
  by_cases c102 : mB r p = 102
  · rw [if_pos c102]
    have eM : rwM r = rwG r (upd (upd (rwO r) (3 * mT r + 1) (fgM (mB r) (mY r) (rwA r).1)) (3 * mT r + 2) (jrem (clkV (mB r) (mY r) (rwF1 r)) 720)) (rwF2 r) := by
      unfold rwM
      rw [hL, if_pos c102]
    rw [eM, rwG_W, rwG_S, rwF2_e]
    rcases rd_face h hY hA g with ⟨f, f1, f2, f3, f4, f5⟩ | ⟨f3, f4⟩
    · rw [f3, f4, f5, rfB_n (by omega), if_neg (by decide), hY]
      rcases clk h (p := p + 2) f2 ck with ⟨c, c1, c2, c3, c4, c5⟩ | ⟨e, e1, e2, e3⟩
      · rw [c3, c4, c5]
        refine Or.inl ⟨rfl, rfl, rfl, by omega, o0' _ _, Or.inr (Or.inl ⟨c102, f, c, f1, c1, rfl, rfl, ?_, ?_⟩)⟩
        · show upd (upd (rwO r) (3 * mT r + 1) (nI f)) (3 * mT r + 2) _ (3 * mT r + 1) = _
          rw [up_n (by omega), up_s]
        · show upd (upd (rwO r) (3 * mT r + 1) (nI f)) (3 * mT r + 2) _ (3 * mT r + 2) = _
          rw [up_s]; exact za_r720 (by omega)
      · rw [e2, e3]
        exact Or.inr ⟨rfl, rfl, e1⟩
    · rw [f3, f4, rfB_m, if_pos rfl, clkU_0 (show ¬ (nI (p + 1)) = -1000 from ne1000 (by omega))]
      exact Or.inr ⟨rfl, rfl, by show p + 1 ≤ Y; omega⟩
  rw [if_neg c102]
  by_cases c107 : mB r p = 107
  · rw [if_pos c107]
    have eM : rwM r = rwG r (upd (upd (rwO r) (3 * mT r + 1) (clkV (mB r) (mY r) (rwA r))) (3 * mT r + 2) (sgM (rw6 r) * (rwNk r).2)) ((rwNk r).1, (nuU (mB r) (mY r) 0 (rwK2 r)).2) := by
      unfold rwM
      rw [hL, if_neg c102, if_pos c107]
    have eN : rwNk r = numP (mB r) (mY r) 0 30 (rwK2 r) := rfl
    have e6 : rw6 r = ltM (mB r) (mY r) (rwK1 r).1 := rfl
    rw [eM, rwG_W, rwG_S, eN]
    have eO : mO (rwG r (upd (upd (rwO r) (3 * mT r + 1) (clkV (mB r) (mY r) (rwA r))) (3 * mT r + 2) (sgM (rw6 r) * (numP (mB r) (mY r) 0 30 (rwK2 r)).2)) ((numP (mB r) (mY r) 0 30 (rwK2 r)).1, (nuU (mB r) (mY r) 0 (rwK2 r)).2)) = upd (upd (rwO r) (3 * mT r + 1) (clkV (mB r) (mY r) (rwA r))) (3 * mT r + 2) (sgM (rw6 r) * (numP (mB r) (mY r) 0 30 (rwK2 r)).2) := rfl
    rw [eO, hA, hY]
    have eK1 : rwK1 r = clkU (mB r) Y (p + 1, -1000) := by rw [rwK1_e, hA, hY]
    rcases clk h (p := p + 1) (by omega) ck with ⟨c, c1, c2, c3, c4, c5⟩ | ⟨e, e1, e2, e3⟩
    · rw [c3, c5, if_neg (show ¬ (1 : Int32) = 0 by decide)]
      have k1 : rwK1 r = (p + 6, -1000) := by rw [eK1, c4]
      have k6 : rw6 r = ltM (mB r) Y (p + 6) := by rw [e6, k1, hY]
      have k2 : rwK2 r = wtM (okM (rw6 r)) (p + 6, -1000) := by rw [rwK2_e, k1]
      show (((rgF sg Y nu (p + 6)).1 = 1 ∧ (nuU (mB r) Y 0 (rwK2 r)).2 = -1000 ∧ (numP (mB r) Y 0 30 (rwK2 r)).1 = (rgF sg Y nu (p + 6)).2.1 ∧ (rgF sg Y nu (p + 6)).2.1 ≤ Y ∧ TokR (upd (upd (rwO r) (3 * mT r + 1) (nI c)) (3 * mT r + 2) (sgM (rw6 r) * (numP (mB r) Y 0 30 (rwK2 r)).2)) (3 * mT r) (mB r p, fc, nI c, (rgF sg Y nu (p + 6)).2.2)) ∨ ((rgF sg Y nu (p + 6)).1 = 0 ∧ (nuU (mB r) Y 0 (rwK2 r)).2 = nI (rgF sg Y nu (p + 6)).2.1 ∧ (rgF sg Y nu (p + 6)).2.1 ≤ Y))
      -- the number behind a sign
      have hnum : ∀ (sl : Int32), rwK2 r = (p + 7, -1000) → p + 7 ≤ Y → rgF sg Y nu (p + 6) = rwN sg Y (p + 7) sl → ((sl = 0 ∧ sgM (rw6 r) = 1) ∨ (¬ sl = 0 ∧ sgM (rw6 r) = -1)) →
          (((rgF sg Y nu (p + 6)).1 = 1 ∧ (nuU (mB r) Y 0 (rwK2 r)).2 = -1000 ∧ (numP (mB r) Y 0 30 (rwK2 r)).1 = (rgF sg Y nu (p + 6)).2.1 ∧ (rgF sg Y nu (p + 6)).2.1 ≤ Y ∧ TokR (upd (upd (rwO r) (3 * mT r + 1) (nI c)) (3 * mT r + 2) (sgM (rw6 r) * (numP (mB r) Y 0 30 (rwK2 r)).2)) (3 * mT r) (mB r p, fc, nI c, (rgF sg Y nu (p + 6)).2.2)) ∨ ((rgF sg Y nu (p + 6)).1 = 0 ∧ (nuU (mB r) Y 0 (rwK2 r)).2 = nI (rgF sg Y nu (p + 6)).2.1 ∧ (rgF sg Y nu (p + 6)).2.1 ≤ Y)) := by
        intro sl q1 q2 q3 q4
        rw [q3, q1]
        unfold rwN
        rcases num (mo := 30) (a := 0) (A := 0) h (by omega) (by omega) (by omega) rfl (p := p + 7) q2 with ⟨v, s', n1, n2, n3, n4, n5, n6⟩ | ⟨n1, n2⟩
        · have n1' : rnF sg Y 0 30 (p + 7) = (1, s', nI v) := n1
          have n2' : numP (mB r) Y 0 30 (p + 7, -1000) = (s', nI v) := n2
          rw [n1', n2', if_neg (show ¬ (1 : Int32) = 0 by decide)]
          have t1 : ∀ w, upd (upd (rwO r) (3 * mT r + 1) (nI c)) (3 * mT r + 2) w (3 * mT r + 1) = nI c := fun w => by rw [up_n (by omega), up_s]
          rcases q4 with ⟨z1, z2⟩ | ⟨z1, z2⟩
          · rw [if_pos z1, z2, Int32.one_mul]
            exact Or.inl ⟨rfl, n3, rfl, n6, o0' _ _, Or.inr (Or.inr (Or.inl ⟨c107, t1 _, up_s _ _ _⟩))⟩
          · rw [if_neg z1, z2, neg1]
            exact Or.inl ⟨rfl, n3, rfl, n6, o0' _ _, Or.inr (Or.inr (Or.inl ⟨c107, t1 _, up_s _ _ _⟩))⟩
        · have n1' : rnF sg Y 0 30 (p + 7) = (0, p + 7, -1) := n1
          rw [n1', if_pos rfl]
          exact Or.inr ⟨rfl, n2, q2⟩
      rcases sig1 h (x := 45) (by decide) (p := p + 6) (by omega) with ⟨l3, s3, r3⟩ | ⟨s3, r3⟩
      · have o1 : okM (rw6 r) = 1 := by rw [k6, s3]; rfl
        have o2 : sgM (rw6 r) = -1 := by rw [k6, s3]; rfl
        refine hnum 1 (by rw [k2, o1]; exact wt_1 (by decide)) (by omega) ?_ (Or.inr ⟨by decide, o2⟩)
        unfold rgF
        rw [r3]
        exact if_neg (show ¬ (1 : Int32) = 0 by decide)
      · rcases sig1 h (x := 43) (by decide) (p := p + 6) (by omega) with ⟨l4, s4, r4⟩ | ⟨s4, r4⟩
        · have o1 : okM (rw6 r) = 1 := by rw [k6, s4]; rfl
          have o2 : sgM (rw6 r) = 1 := by rw [k6, s4]; rfl
          refine hnum 0 (by rw [k2, o1]; exact wt_1 (by decide)) (by omega) ?_ (Or.inl ⟨rfl, o2⟩)
          unfold rgF
          rw [r3]
          refine (if_pos rfl).trans ?_
          show (if (rsF sg Y 43 (p + 6)).1 = 0 then (0, (rsF sg Y 43 (p + 6)).2, nu) else rwN sg Y (rsF sg Y 43 (p + 6)).2 0) = _
          rw [r4]
          exact if_neg (show ¬ (1 : Int32) = 0 by decide)
        · have o1 : okM (rw6 r) = 0 := by
            rw [k6]; unfold okM
            rw [if_neg s3, if_neg s4]
          have k2' : rwK2 r = (p + 7, nI (p + 6)) := by rw [k2, o1]; exact wt_0 rfl
          have e7 : rgF sg Y nu (p + 6) = (0, p + 6, nu) := by
            unfold rgF
            rw [r3]
            refine (if_pos rfl).trans ?_
            show (if (rsF sg Y 43 (p + 6)).1 = 0 then (0, (rsF sg Y 43 (p + 6)).2, nu) else rwN sg Y (rsF sg Y 43 (p + 6)).2 0) = _
            rw [r4]
            exact if_pos rfl
          have n0 : ¬ (rwK2 r).2 = -1000 := by rw [k2']; exact ne1000 (by omega)
          have e8 : nuU (mB r) Y 0 (rwK2 r) = rwK2 r := wt_f n0
          rw [e7, e8, k2']
          exact Or.inr ⟨rfl, rfl, by show p + 6 ≤ Y; omega⟩
    · rw [e2, if_pos rfl]
      have k1 : (rwK1 r).2 = nI e := by rw [eK1]; exact e3
      have n1 : ¬ (rwK1 r).2 = -1000 := by rw [k1]; exact ne1000 (by omega)
      have k2 : rwK2 r = rwK1 r := by rw [rwK2_e]; exact wt_f n1
      have e8 : nuU (mB r) Y 0 (rwK2 r) = rwK2 r := wt_f (by rw [k2]; exact n1)
      rw [e8, k2, k1]
      exact Or.inr ⟨rfl, rfl, e1⟩
  rw [if_neg c107]
  by_cases c111 : mB r p = 111
  · rw [if_pos c111]
    have eM : rwM r = rwG r (upd (rwO r) (3 * mT r + 1) (fgM (mB r) (mY r) (rwA r).1)) (rwF1 r) := by
      unfold rwM
      rw [hL, if_neg c102, if_neg c107, if_neg (by rw [c111]; decide), if_pos c111]
    rw [eM, rwG_W, rwG_S]
    rcases rd_face h hY hA g with ⟨f, f1, f2, f3, f4, f5⟩ | ⟨f3, f4⟩
    · rw [f3, f4, f5, rfB_n (by omega)]
      exact Or.inl ⟨rfl, rfl, rfl, f2, o0 _, Or.inl ⟨Or.inr c111, f, f1, rfl, up_s _ _ _⟩⟩
    · rw [f3, f4, rfB_m]
      exact Or.inr ⟨rfl, rfl, by omega⟩
  rw [if_neg c111]
  by_cases c119 : mB r p = 119
  · rw [if_pos c119]
    have eM : rwM r = rwG r (upd (rwO r) (3 * mT r + 1) (rwNw r).2) ((rwNw r).1, (nuU (mB r) (mY r) 1 (rwA r)).2) := by
      unfold rwM
      rw [hL, if_neg c102, if_neg c107, if_pos c119]
    have eN : rwNw r = numP (mB r) Y 1 2000 (p + 1, -1000) := by
      show numP (mB r) (mY r) 1 2000 (rwA r) = _
      rw [hA, hY]
    rw [eM, rwG_W, rwG_S, eN, hA, hY]
    rcases num (mo := 2000) (a := 1) (A := 1) h (by omega) (by omega) (by omega) rfl (p := p + 1) (by omega) with ⟨v, s', n1, n2, n3, n4, n5, n6⟩ | ⟨n1, n2⟩
    · have n1' : rnF sg Y 1 2000 (p + 1) = (1, s', nI v) := n1
      have n2' : numP (mB r) Y 1 2000 (p + 1, -1000) = (s', nI v) := n2
      rw [n1', n2']
      exact Or.inl ⟨rfl, n3, rfl, n6, o0 _, Or.inr (Or.inr (Or.inr ⟨c119, v, n4, rfl, up_s _ _ _⟩))⟩
    · have n1' : rnF sg Y 1 2000 (p + 1) = (0, p + 1, -1) := n1
      rw [n1']
      exact Or.inr ⟨rfl, n2, by show p + 1 ≤ Y; omega⟩
  · rw [if_neg c119]
    refine Or.inr ⟨rfl, ?_, hp⟩
    unfold rwM
    rw [hL, if_neg c102, if_neg c107, if_neg c119, if_neg c111, if_neg c98, rwG_W, uE]
    exact congrArg (fun q => q.2) (wt_0 (p := p) (b := 0) rfl)

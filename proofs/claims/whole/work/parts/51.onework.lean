/-! PURE PART: one work of the text -/
/-- what the reference has told of a work against what the class's reader holds (kind, face, clock, number) -/
def TokR (O : RI) (j : Nat) (v : Int32 × Int32 × Int32 × Int32) : Prop := O j = v.1 ∧
  (((v.1 = 98 ∨ v.1 = 111) ∧ ∃ f, f ≤ 3 ∧ v.2.1 = nI f ∧ O (j + 1) = nI f) ∨ (v.1 = 102 ∧ ∃ f c, f ≤ 3 ∧ c < 1440 ∧ v.2.1 = nI f ∧ v.2.2.1 = nI c ∧ O (j + 1) = nI f ∧ O (j + 2) = nI (c % 720)) ∨
   (v.1 = 107 ∧ O (j + 1) = v.2.2.1 ∧ O (j + 2) = v.2.2.2) ∨ (v.1 = 119 ∧ ∃ mn, mn ≤ 2000 ∧ v.2.2.2 = nI mn ∧ O (j + 1) = nI mn))
theorem rwF_out {sg : RI} {Y : Nat} {u : RQ} (h : ¬ u.1 < Y) : rwF sg Y u = (0, u) := if_neg h
theorem rw_in {sg : RI} {Y p : Nat} {kd fc ck nu : Int32} (h : p < Y) : rwF sg Y (p, kd, fc, ck, nu) =
    if sg p = 98 then (rfB (rdF sg Y 0 3 (p + 1)).1, (rdF sg Y 0 3 (p + 1)).2, sg p, (rdF sg Y 0 3 (p + 1)).1, ck, nu)
    else if sg p = 102 then
      if rfB (rdF sg Y 0 3 (p + 1)).1 = 0 then (0, (rdF sg Y 0 3 (p + 1)).2, sg p, (rdF sg Y 0 3 (p + 1)).1, ck, nu)
      else ((rcF sg Y ck (rdF sg Y 0 3 (p + 1)).2).1, (rcF sg Y ck (rdF sg Y 0 3 (p + 1)).2).2.1, sg p, (rdF sg Y 0 3 (p + 1)).1, (rcF sg Y ck (rdF sg Y 0 3 (p + 1)).2).2.2, nu)
    else if sg p = 107 then
      if (rcF sg Y ck (p + 1)).1 = 0 then (0, (rcF sg Y ck (p + 1)).2.1, sg p, fc, (rcF sg Y ck (p + 1)).2.2, nu)
      else ((rgF sg Y nu (rcF sg Y ck (p + 1)).2.1).1, (rgF sg Y nu (rcF sg Y ck (p + 1)).2.1).2.1, sg p, fc, (rcF sg Y ck (p + 1)).2.2, (rgF sg Y nu (rcF sg Y ck (p + 1)).2.1).2.2)
    else if sg p = 111 then (rfB (rdF sg Y 0 3 (p + 1)).1, (rdF sg Y 0 3 (p + 1)).2, sg p, (rdF sg Y 0 3 (p + 1)).1, ck, nu)
    else if sg p = 119 then ((rnF sg Y 1 2000 (p + 1)).1, (rnF sg Y 1 2000 (p + 1)).2.1, sg p, fc, ck, (rnF sg Y 1 2000 (p + 1)).2.2)
    else (0, p, sg p, fc, ck, nu) := if_pos h
theorem rfB_n {d : Nat} (h : d < 2 ^ 31) : rfB (nI d) = 1 := if_neg (nI_pos h)
theorem rfB_m : rfB (-1) = 0 := if_pos (by decide)
/-- a face behind its letter -/
theorem rd_face {sg : RI} {Y p : Nat} {r : MS} (h : SX sg (mB r) Y) (hY : mY r = Y) (hA : rwA r = (p + 1, -1000)) (hp : p < Y) :
    (∃ f, f ≤ 3 ∧ p + 2 ≤ Y ∧ rdF sg Y 0 3 (p + 1) = (nI f, p + 2) ∧ rwF1 r = (p + 2, -1000) ∧ fgM (mB r) (mY r) (rwA r).1 = nI f) ∨ (rdF sg Y 0 3 (p + 1) = (-1, p + 1) ∧ rwF1 r = (p + 2, nI (p + 1))) := by
  rcases dig h (a := 0) (b := 3) (A := 0) (C := 3) rfl rfl (by omega) (by omega) (p := p + 1) (by omega) with ⟨d, -, b1, l1, f1, r1, i1⟩ | ⟨r1, i1⟩
  · refine Or.inl ⟨d, b1, by omega, r1, ?_, ?_⟩
    · rw [rwF1_e, hA, hY]; exact wt_1 i1
    · rw [hA, hY]; exact f1
  · refine Or.inr ⟨r1, ?_⟩
    rw [rwF1_e, hA, hY]; exact wt_0 i1
theorem neg1 (x : Int32) : -1 * x = -x := by rw [Int32.neg_mul, Int32.one_mul]
/-- what both sides make of a work at p -/
def RdOK (sg : RI) (Y p : Nat) (r : MS) (w : Int32 × RQ) : Prop := (w.1 = 1 ∧ mW (rwM r) = -1000 ∧ mS (rwM r) = w.2.1 ∧ w.2.1 ≤ Y ∧ TokR (mO (rwM r)) (3 * mT r) w.2.2) ∨ (w.1 = 0 ∧ mW (rwM r) = nI w.2.1 ∧ w.2.1 ≤ Y)
theorem RdOK.mk {sg : RI} {Y p : Nat} {r : MS} {w : Int32 × RQ} {O : RI} {u : Nat × Int32} (e : rwM r = rwG r O u) (h : (w.1 = 1 ∧ u.2 = -1000 ∧ u.1 = w.2.1 ∧ w.2.1 ≤ Y ∧ TokR O (3 * mT r) w.2.2) ∨ (w.1 = 0 ∧ u.2 = nI w.2.1 ∧ w.2.1 ≤ Y)) : RdOK sg Y p r w := by
  unfold RdOK
  rw [e]; exact h
theorem RdOK.ok {sg : RI} {Y p : Nat} {r : MS} {O : RI} {u : Nat × Int32} {s' : Nat} {v : Int32 × Int32 × Int32 × Int32} (e : rwM r = rwG r O u) (hu : u = (s', -1000)) (hs : s' ≤ Y) (h : TokR O (3 * mT r) v) : RdOK sg Y p r (1, s', v) :=
  RdOK.mk e (Or.inl ⟨rfl, by rw [hu], by rw [hu], hs, h⟩)
theorem RdOK.no {sg : RI} {Y p : Nat} {r : MS} {O : RI} {u : Nat × Int32} {s' : Nat} {v : Int32 × Int32 × Int32 × Int32} (e : rwM r = rwG r O u) (hu : u.2 = nI s') (hs : s' ≤ Y) : RdOK sg Y p r (0, s', v) :=
  RdOK.mk e (Or.inr ⟨rfl, hu, hs⟩)
theorem rw_o1 {r : MS} {x v : Int32} (hL : ltM (mB r) (mY r) (mS r) = x) : upd (rwO r) (3 * mT r + 1) v (3 * mT r) = x := by
  rw [up_n (by omega)]
  show upd (mO r) (3 * mT r) (ltM (mB r) (mY r) (mS r)) (3 * mT r) = _
  rw [up_s, hL]
theorem rw_o2 {r : MS} {x v w : Int32} (hL : ltM (mB r) (mY r) (mS r) = x) : upd (upd (rwO r) (3 * mT r + 1) v) (3 * mT r + 2) w (3 * mT r) = x := by
  rw [up_n (by omega)]; exact rw_o1 hL
theorem rw_o21 {r : MS} {v w : Int32} : upd (upd (rwO r) (3 * mT r + 1) v) (3 * mT r + 2) w (3 * mT r + 1) = v := by
  rw [up_n (by omega), up_s]
theorem rd_98 {sg : RI} {Y p : Nat} {r : MS} {kd fc ck nu : Int32} (h : SX sg (mB r) Y) (hY : mY r = Y) (hA : rwA r = (p + 1, -1000)) (g : p < Y) (hL : ltM (mB r) (mY r) (mS r) = sg p) (c98 : sg p = 98) : RdOK sg Y p r (rwF sg Y (p, kd, fc, ck, nu)) := by
  have eM : rwM r = rwG r (upd (rwO r) (3 * mT r + 1) (fgM (mB r) (mY r) (rwA r).1)) (rwF1 r) := by
    unfold rwM
    rw [hL, if_neg (by rw [c98]; decide), if_neg (by rw [c98]; decide), if_neg (by rw [c98]; decide), if_neg (by rw [c98]; decide), if_pos c98]
  rw [rw_in g, if_pos c98]
  rcases rd_face h hY hA g with ⟨f, f1, f2, f3, f4, f5⟩ | ⟨f3, f4⟩
  · rw [f5] at eM
    rw [f3]
    dsimp only
    rw [rfB_n (by omega)]
    exact RdOK.ok eM f4 f2 ⟨rw_o1 hL, Or.inl ⟨Or.inl c98, f, f1, rfl, up_s _ _ _⟩⟩
  · rw [f3]
    dsimp only
    rw [rfB_m]
    exact RdOK.no eM (by rw [f4]) (by omega)
theorem rd_111 {sg : RI} {Y p : Nat} {r : MS} {kd fc ck nu : Int32} (h : SX sg (mB r) Y) (hY : mY r = Y) (hA : rwA r = (p + 1, -1000)) (g : p < Y) (hL : ltM (mB r) (mY r) (mS r) = sg p) (c111 : sg p = 111) : RdOK sg Y p r (rwF sg Y (p, kd, fc, ck, nu)) := by
  have eM : rwM r = rwG r (upd (rwO r) (3 * mT r + 1) (fgM (mB r) (mY r) (rwA r).1)) (rwF1 r) := by
    unfold rwM
    rw [hL, if_neg (by rw [c111]; decide), if_neg (by rw [c111]; decide), if_neg (by rw [c111]; decide), if_pos c111]
  rw [rw_in g, if_neg (by rw [c111]; decide), if_neg (by rw [c111]; decide), if_neg (by rw [c111]; decide), if_pos c111]
  rcases rd_face h hY hA g with ⟨f, f1, f2, f3, f4, f5⟩ | ⟨f3, f4⟩
  · rw [f5] at eM
    rw [f3]
    dsimp only
    rw [rfB_n (by omega)]
    exact RdOK.ok eM f4 f2 ⟨rw_o1 hL, Or.inl ⟨Or.inr c111, f, f1, rfl, up_s _ _ _⟩⟩
  · rw [f3]
    dsimp only
    rw [rfB_m]
    exact RdOK.no eM (by rw [f4]) (by omega)
theorem rd_102 {sg : RI} {Y p : Nat} {r : MS} {kd fc ck nu : Int32} (h : SX sg (mB r) Y) (hY : mY r = Y) (hA : rwA r = (p + 1, -1000)) (g : p < Y) (hL : ltM (mB r) (mY r) (mS r) = sg p) (c102 : sg p = 102) : RdOK sg Y p r (rwF sg Y (p, kd, fc, ck, nu)) := by
  have h60 := h.1
  have eM : rwM r = rwG r (upd (upd (rwO r) (3 * mT r + 1) (fgM (mB r) (mY r) (rwA r).1)) (3 * mT r + 2) (jrem (clkV (mB r) (mY r) (rwF1 r)) 720)) (rwF2 r) := by
    unfold rwM
    rw [hL, if_pos c102]
  rw [rwF2_e] at eM
  rw [rw_in g, if_neg (by rw [c102]; decide), if_pos c102]
  rcases rd_face h hY hA g with ⟨f, f1, f2, f3, f4, f5⟩ | ⟨f3, f4⟩
  · rw [f5, f4, hY] at eM
    rw [f3]
    dsimp only
    rw [rfB_n (by omega), if_neg (show ¬ (1 : Int32) = 0 by decide)]
    rcases clk h (p := p + 2) f2 ck with ⟨c, c1, c2, c3, c4, c5⟩ | ⟨e, e1, e2, e3⟩
    · rw [c5] at eM
      rw [c3]
      exact RdOK.ok eM c4 (by omega) ⟨rw_o2 hL, Or.inr (Or.inl ⟨c102, f, c, f1, c1, rfl, rfl, rw_o21, (up_s _ _ _).trans (za_r720 (by omega))⟩)⟩
    · rw [e2]
      exact RdOK.no eM e3 e1
  · rw [f4, clkU_0 (show ¬ (p + 2, nI (p + 1)).2 = -1000 from ne1000 (by omega))] at eM
    rw [f3]
    dsimp only
    rw [rfB_m, if_pos rfl]
    exact RdOK.no eM rfl (by omega)
/-- a sign and a number -/
theorem rd_sign {sg B : RI} {Y p : Nat} (h : SX sg B Y) (hp : p ≤ Y) (nu : Int32) :
    (∃ s' v, rgF sg Y nu p = (1, s', v) ∧ (nuU B Y 0 (wtM (okM (ltM B Y p)) (p, -1000))).2 = -1000 ∧ (numP B Y 0 30 (wtM (okM (ltM B Y p)) (p, -1000))).1 = s' ∧ sgM (ltM B Y p) * (numP B Y 0 30 (wtM (okM (ltM B Y p)) (p, -1000))).2 = v ∧ s' ≤ Y) ∨
    (∃ s' v, rgF sg Y nu p = (0, s', v) ∧ (nuU B Y 0 (wtM (okM (ltM B Y p)) (p, -1000))).2 = nI s' ∧ s' ≤ Y) := by
  have h60 := h.1
  have hnum : ∀ (sl : Int32), p + 1 ≤ Y → okM (ltM B Y p) = 1 → rgF sg Y nu p = rwN sg Y (p + 1) sl → ((sl = 0 ∧ sgM (ltM B Y p) = 1) ∨ (¬ sl = 0 ∧ sgM (ltM B Y p) = -1)) →
      (∃ s' v, rgF sg Y nu p = (1, s', v) ∧ (nuU B Y 0 (wtM (okM (ltM B Y p)) (p, -1000))).2 = -1000 ∧ (numP B Y 0 30 (wtM (okM (ltM B Y p)) (p, -1000))).1 = s' ∧ sgM (ltM B Y p) * (numP B Y 0 30 (wtM (okM (ltM B Y p)) (p, -1000))).2 = v ∧ s' ≤ Y) ∨
      (∃ s' v, rgF sg Y nu p = (0, s', v) ∧ (nuU B Y 0 (wtM (okM (ltM B Y p)) (p, -1000))).2 = nI s' ∧ s' ≤ Y) := by
    intro sl q2 q1 q3 q4
    have w1 : wtM 1 (p, -1000) = (p + 1, -1000) := wt_1 (by decide)
    rw [q3, q1, w1]
    unfold rwN
    have nn := num (mo := 30) (a := 0) (A := 0) h (by omega) (by omega) (by omega) rfl (p := p + 1) q2
    rw [show nI 30 = (30 : Int32) from rfl] at nn
    rcases nn with ⟨v, s', n1, n2, n3, n4, n5, n6⟩ | ⟨n1, n2⟩
    · rw [n1, n2]
      dsimp only
      rw [if_neg (show ¬ (1 : Int32) = 0 by decide)]
      rcases q4 with ⟨z1, z2⟩ | ⟨z1, z2⟩
      · rw [if_pos z1, z2, Int32.one_mul]
        exact Or.inl ⟨s', nI v, rfl, n3, rfl, rfl, n6⟩
      · rw [if_neg z1, z2, neg1]
        exact Or.inl ⟨s', -nI v, rfl, n3, rfl, rfl, n6⟩
    · rw [n1]
      dsimp only
      rw [if_pos rfl]
      exact Or.inr ⟨p + 1, -1, rfl, n2, q2⟩
  rcases sig1 h (x := 45) (by decide) hp with ⟨l3, s3, r3⟩ | ⟨s3, r3⟩
  · refine hnum 1 (by omega) (by rw [s3]; rfl) ?_ (Or.inr ⟨by decide, by rw [s3]; rfl⟩)
    unfold rgF
    rw [r3]
    exact if_neg (show ¬ (1 : Int32) = 0 by decide)
  · have e4 : rgF sg Y nu p = if (rsF sg Y 43 p).1 = 0 then (0, (rsF sg Y 43 p).2, nu) else rwN sg Y (rsF sg Y 43 p).2 0 := by
      unfold rgF
      rw [r3]
      exact if_pos rfl
    rcases sig1 h (x := 43) (by decide) hp with ⟨l4, s4, r4⟩ | ⟨s4, r4⟩
    · refine hnum 0 (by omega) (by rw [s4]; rfl) ?_ (Or.inl ⟨rfl, by rw [s4]; rfl⟩)
      rw [e4, r4]
      exact if_neg (show ¬ (1 : Int32) = 0 by decide)
    · have o1 : okM (ltM B Y p) = 0 := by
        unfold okM
        rw [if_neg s3, if_neg s4]
      have w0 : wtM 0 (p, -1000) = (p + 1, nI p) := wt_0 rfl
      have e8 : nuU B Y 0 (p + 1, nI p) = (p + 1, nI p) := wt_f (show ¬ nI p = -1000 from ne1000 (by omega))
      rw [o1, w0, e8, e4, r4]
      exact Or.inr ⟨p, nu, if_pos rfl, rfl, hp⟩
theorem rd_107 {sg : RI} {Y p : Nat} {r : MS} {kd fc ck nu : Int32} (h : SX sg (mB r) Y) (hY : mY r = Y) (hA : rwA r = (p + 1, -1000)) (g : p < Y) (hL : ltM (mB r) (mY r) (mS r) = sg p) (c107 : sg p = 107) : RdOK sg Y p r (rwF sg Y (p, kd, fc, ck, nu)) := by
  have h60 := h.1
  have eM : rwM r = rwG r (upd (upd (rwO r) (3 * mT r + 1) (clkV (mB r) (mY r) (rwA r))) (3 * mT r + 2) (sgM (rw6 r) * (rwNk r).2)) ((rwNk r).1, (nuU (mB r) (mY r) 0 (rwK2 r)).2) := by
    unfold rwM
    rw [hL, if_neg (by rw [c107]; decide), if_pos c107]
  have eN : rwNk r = numP (mB r) (mY r) 0 30 (rwK2 r) := rfl
  have e6 : rw6 r = ltM (mB r) (mY r) (rwK1 r).1 := rfl
  have eK1 : rwK1 r = clkU (mB r) Y (p + 1, -1000) := by rw [rwK1_e, hA, hY]
  rw [eN, hA, hY] at eM
  rw [rw_in g, if_neg (by rw [c107]; decide), if_neg (by rw [c107]; decide), if_pos c107]
  rcases clk h (p := p + 1) (by omega) ck with ⟨c, c1, c2, c3, c4, c5⟩ | ⟨e, e1, e2, e3⟩
  · have k1 : rwK1 r = (p + 6, -1000) := by rw [eK1, c4]
    have k6 : rw6 r = ltM (mB r) Y (p + 6) := by rw [e6, k1, hY]
    have k2 : rwK2 r = wtM (okM (ltM (mB r) Y (p + 6))) (p + 6, -1000) := by rw [rwK2_e, k1, k6]
    rw [c5, k6, k2] at eM
    rw [c3]
    dsimp only
    rw [if_neg (show ¬ (1 : Int32) = 0 by decide)]
    rcases rd_sign h (p := p + 6) (by omega) nu with ⟨s', v, g1, g2, g3, g4, g5⟩ | ⟨s', v, g1, g2, g3⟩
    · rw [g2, g3, g4] at eM
      rw [g1]
      exact RdOK.ok eM rfl g5 ⟨rw_o2 hL, Or.inr (Or.inr (Or.inl ⟨c107, rw_o21, up_s _ _ _⟩))⟩
    · rw [g2] at eM
      rw [g1]
      exact RdOK.no eM rfl g3
  · have k1 : (rwK1 r).2 = nI e := by rw [eK1]; exact e3
    have n1 : ¬ (rwK1 r).2 = -1000 := by rw [k1]; exact ne1000 (by omega)
    have k2 : rwK2 r = rwK1 r := by rw [rwK2_e]; exact wt_f n1
    have e8 : nuU (mB r) Y 0 (rwK2 r) = rwK2 r := wt_f (by rw [k2]; exact n1)
    rw [e8] at eM
    rw [e2]
    dsimp only
    rw [if_pos rfl]
    have hu : ((numP (mB r) Y 0 30 (rwK2 r)).1, (rwK2 r).2).2 = nI e := by
      dsimp only
      rw [k2, k1]
    exact RdOK.no eM hu e1
theorem rd_119 {sg : RI} {Y p : Nat} {r : MS} {kd fc ck nu : Int32} (h : SX sg (mB r) Y) (hY : mY r = Y) (hA : rwA r = (p + 1, -1000)) (g : p < Y) (hL : ltM (mB r) (mY r) (mS r) = sg p) (c119 : sg p = 119) : RdOK sg Y p r (rwF sg Y (p, kd, fc, ck, nu)) := by
  have eM : rwM r = rwG r (upd (rwO r) (3 * mT r + 1) (rwNw r).2) ((rwNw r).1, (nuU (mB r) (mY r) 1 (rwA r)).2) := by
    unfold rwM
    rw [hL, if_neg (by rw [c119]; decide), if_neg (by rw [c119]; decide), if_pos c119]
  have eN : rwNw r = numP (mB r) (mY r) 1 2000 (rwA r) := rfl
  rw [eN, hA, hY] at eM
  rw [rw_in g, if_neg (by rw [c119]; decide), if_neg (by rw [c119]; decide), if_neg (by rw [c119]; decide), if_neg (by rw [c119]; decide), if_pos c119]
  have nn := num (mo := 2000) (a := 1) (A := 1) h (by omega) (by omega) (by omega) rfl (p := p + 1) (by omega)
  rw [show nI 2000 = (2000 : Int32) from rfl] at nn
  rcases nn with ⟨v, s', n1, n2, n3, n4, n5, n6⟩ | ⟨n1, n2⟩
  · rw [n2, n3] at eM
    rw [n1]
    exact RdOK.ok eM rfl n6 ⟨rw_o1 hL, Or.inr (Or.inr (Or.inr ⟨c119, v, n4, rfl, up_s _ _ _⟩))⟩
  · rw [n2] at eM
    rw [n1]
    exact RdOK.no eM rfl (by show p + 1 ≤ Y; omega)
theorem rd_work' {sg : RI} {Y p : Nat} {r : MS} {kd fc ck nu : Int32} (h : SX sg (mB r) Y) (hY : mY r = Y) (hW : mW r = -1000) (hS : mS r = p) (hp : p ≤ Y) : RdOK sg Y p r (rwF sg Y (p, kd, fc, ck, nu)) := by
  have h60 := h.1
  have uE : uM r = (p, -1000) := Prod.ext hS hW
  have w0 : wtM 0 (uM r) = (p + 1, nI p) := by rw [uE]; exact wt_0 rfl
  by_cases g : p < Y
  case neg =>
    rw [rwF_out (u := (p, kd, fc, ck, nu)) g]
    have hL : ltM (mB r) (mY r) (mS r) = -1000 := lt_out (by omega) (by omega)
    have eM : rwM r = rwG r (rwO r) (wtM 0 (uM r)) := by
      unfold rwM
      rw [hL, if_neg (by decide), if_neg (by decide), if_neg (by decide), if_neg (by decide), if_neg (by decide)]
    rw [w0] at eM
    exact RdOK.no eM rfl hp
  have hsg : sg p = mB r p := (h.2 p g).1
  have hL : ltM (mB r) (mY r) (mS r) = sg p := by rw [hS, hsg]; exact lt_in (by omega) (by omega)
  have hA : rwA r = (p + 1, -1000) := by
    show wtM 1 (uM r) = _
    rw [uE]; exact wt_1 (by decide)
  by_cases c98 : sg p = 98
  · exact rd_98 h hY hA g hL c98
  by_cases c102 : sg p = 102
  · exact rd_102 h hY hA g hL c102
  by_cases c107 : sg p = 107
  · exact rd_107 h hY hA g hL c107
  by_cases c111 : sg p = 111
  · exact rd_111 h hY hA g hL c111
  by_cases c119 : sg p = 119
  · exact rd_119 h hY hA g hL c119
  have eM : rwM r = rwG r (rwO r) (wtM 0 (uM r)) := by
    unfold rwM
    rw [hL, if_neg c102, if_neg c107, if_neg c119, if_neg c111, if_neg c98]
  rw [w0] at eM
  rw [rw_in g, if_neg c98, if_neg c102, if_neg c107, if_neg c111, if_neg c119]
  exact RdOK.no eM rfl hp
theorem rd_work {sg : RI} {Y p : Nat} {r : MS} {kd fc ck nu : Int32} (h : SX sg (mB r) Y) (hY : mY r = Y) (hW : mW r = -1000) (hS : mS r = p) (hp : p ≤ Y) :
    ((rwF sg Y (p, kd, fc, ck, nu)).1 = 1 ∧ mW (rwM r) = -1000 ∧ mS (rwM r) = (rwF sg Y (p, kd, fc, ck, nu)).2.1 ∧ (rwF sg Y (p, kd, fc, ck, nu)).2.1 ≤ Y ∧ TokR (mO (rwM r)) (3 * mT r) (rwF sg Y (p, kd, fc, ck, nu)).2.2) ∨
    ((rwF sg Y (p, kd, fc, ck, nu)).1 = 0 ∧ mW (rwM r) = nI (rwF sg Y (p, kd, fc, ck, nu)).2.1 ∧ (rwF sg Y (p, kd, fc, ck, nu)).2.1 ≤ Y) := rd_work' h hY hW hS hp

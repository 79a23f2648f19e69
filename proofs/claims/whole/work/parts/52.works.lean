/-! PURE PART: the whole text, and its works -/
theorem fe_ep {sg : RI} {Y : Nat} : ∀ (n m : Nat) (p : Nat) (kd fc ck nu : Int32) (r : MS), SX sg (mB r) Y → mY r = Y → mW r = -1000 → mS r = p → p ≤ Y → Y ≤ n + p → Y < p + m → (feL sg Y n (p, kd, fc, ck, nu)).1 = mW (epL m r) := by
  intro n
  induction n with
  | zero =>
    intro m p kd fc ck nu r h hY hW hS hp hn hm
    obtain ⟨m', rfl⟩ : ∃ m', m = m' + 1 := ⟨m - 1, by omega⟩
    have e := rwF_out (sg := sg) (Y := Y) (u := (p, kd, fc, ck, nu)) (show ¬ p < Y by omega)
    rcases rd_work (kd := kd) (fc := fc) (ck := ck) (nu := nu) h hY hW hS hp with ⟨a, -⟩ | ⟨-, b, -⟩
    · rw [e] at a; exact absurd a (show ¬ (0 : Int32) = 1 by decide)
    · rw [e] at b
      have b' : mW (rwM r) = nI p := b
      have q : epL (m' + 1) r = rwM r := if_neg (by rw [b']; exact ne1000 (by have := h.1; omega))
      rw [q, b']; rfl
  | succ n ih =>
    intro m p kd fc ck nu r h hY hW hS hp hn hm
    obtain ⟨m', rfl⟩ : ∃ m', m = m' + 1 := ⟨m - 1, by omega⟩
    have h60 := h.1
    have d1 : feL sg Y (n + 1) (p, kd, fc, ck, nu) = if (rwF sg Y (p, kd, fc, ck, nu)).1 = 0 then (nI (rwF sg Y (p, kd, fc, ck, nu)).2.1, (rwF sg Y (p, kd, fc, ck, nu)).2) else if nI (rwF sg Y (p, kd, fc, ck, nu)).2.1 = nI Y then (-1000, (rwF sg Y (p, kd, fc, ck, nu)).2) else if (rsF sg Y 59 (rwF sg Y (p, kd, fc, ck, nu)).2.1).1 = 0 then (nI (rsF sg Y 59 (rwF sg Y (p, kd, fc, ck, nu)).2.1).2, rsU sg Y (rwF sg Y (p, kd, fc, ck, nu)).2) else feL sg Y n (rsU sg Y (rwF sg Y (p, kd, fc, ck, nu)).2) := rfl
    have d2 : epL (m' + 1) r = if mW (rwM r) = -1000 then (if nI (mY (rwM r)) ≤ nI (mS (rwM r)) then rwM r else if mW (ep1 r) = -1000 then epL m' (ep1 r) else ep1 r) else rwM r := rfl
    have kp := rwM_keep r
    rcases rd_work (kd := kd) (fc := fc) (ck := ck) (nu := nu) h hY hW hS hp with ⟨a1, a2, a3, a4, a5⟩ | ⟨b1, b2, b3⟩
    · have s2 := rw_S r (by omega) a2
      rw [d1, d2, if_pos a2, a1, if_neg (show ¬ (1 : Int32) = 0 by decide), rw_Y, hY, a3]
      have l1 : p + 2 ≤ (rwF sg Y (p, kd, fc, ck, nu)).2.1 := by rw [← a3, ← hS]; exact s2.1
      generalize rwF sg Y (p, kd, fc, ck, nu) = w at a1 a3 a4 l1
      obtain ⟨w0, p', kd', fc', ck', nu'⟩ := w
      dsimp only at a1 a3 a4 l1 ⊢
      by_cases g : p' = Y
      · rw [if_pos (by rw [g]), if_pos (by rw [g]; exact nI_le (Nat.le_refl _) (by omega))]
        exact a2.symm
      · rw [if_neg (fun e => g ((nI_eq (by omega) (by omega)).mp e)), if_neg (nI_ge (by omega) (by omega))]
        have hX' : SX sg (mB (rwM r)) Y := by rw [kp.2.2.2.2.1]; exact h
        have uE : uM (rwM r) = (p', -1000) := Prod.ext a3 a2
        rcases sig1 hX' (x := 59) (by decide) a4 with ⟨l3, s3, r3⟩ | ⟨s3, r3⟩
        · have e1 : ep1 r = msu (rwM r) (p' + 1, -1000) := by
            unfold ep1
            rw [rw_Y, hY, a3, s3, if_pos rfl, uE, wt_1 (by decide)]
          have e2 : rsU sg Y (p', kd', fc', ck', nu') = (p' + 1, kd', fc', ck', nu') := by
            show ((rsF sg Y 59 p').2, kd', fc', ck', nu') = _
            rw [r3]
          rw [r3, if_neg (show ¬ (1 : Int32) = 0 by decide), e2, e1, if_pos rfl]
          exact ih m' (p' + 1) kd' fc' ck' nu' (msu (rwM r) (p' + 1, -1000)) hX' ((rw_Y r).trans hY) rfl rfl (by omega) (by omega) (by omega)
        · have e1 : ep1 r = msu (rwM r) (p' + 1, nI p') := by
            unfold ep1
            rw [rw_Y, hY, a3, if_neg s3, uE, wt_0 rfl]
          rw [r3, if_pos rfl, e1, if_neg (show ¬ nI p' = -1000 from ne1000 (by omega))]
    · have nW : ¬ mW (rwM r) = -1000 := by rw [b2]; exact ne1000 (by omega)
      rw [d1, if_pos b1, d2, if_neg nW, b2]
/-- a work at p ends at p' and is told as the k-th -/
def Sto (sg : RI) (Y : Nat) (O : RI) (p p' k : Nat) : Prop := ∀ kd fc ck nu : Int32, (rwF sg Y (p, kd, fc, ck, nu)).1 = 1 ∧ (rwF sg Y (p, kd, fc, ck, nu)).2.1 = p' ∧ TokR O (3 * k) (rwF sg Y (p, kd, fc, ck, nu)).2.2
def Ch (sg : RI) (Y : Nat) (O : RI) : Nat → Nat → Nat → Prop
  | 0, p, k => Sto sg Y O p Y k
  | n + 1, p, k => ∃ p', p' < Y ∧ rsF sg Y 59 p' = (1, p' + 1) ∧ Sto sg Y O p p' k ∧ Ch sg Y O n (p' + 1) (k + 1)
theorem TokR.mv {O O' : RI} {j : Nat} {v : Int32 × Int32 × Int32 × Int32} (h : TokR O j v) (h0 : O' j = O j) (h1 : O' (j + 1) = O (j + 1)) (h2 : O' (j + 2) = O (j + 2)) : TokR O' j v := by
  unfold TokR; rw [h0, h1, h2]; exact h
theorem rwM_O (r : MS) {i : Nat} (hi : i < 3 * mT r) : mO (rwM r) i = mO r i := by
  have q : rwO r i = mO r i := up_n (by omega)
  have q1 : ∀ v, upd (rwO r) (3 * mT r + 1) v i = mO r i := fun v => (up_n (by omega)).trans q
  have q2 : ∀ v w, upd (upd (rwO r) (3 * mT r + 1) v) (3 * mT r + 2) w i = mO r i := fun v w => (up_n (by omega)).trans (q1 v)
  unfold rwM
  split
  · exact q2 _ _
  · split
    · exact q2 _ _
    · split
      · exact q1 _
      · split
        · exact q1 _
        · split
          · exact q1 _
          · exact q
theorem ep_ch {sg : RI} {Y : Nat} : ∀ (m : Nat) (r : MS), SX sg (mB r) Y → mY r = Y → mW r = -1000 → mS r ≤ Y → Y < mS r + m → 3 * mT r ≤ mS r → mW (epL m r) = -1000 →
    ∃ n, mT (epL m r) = mT r + n + 1 ∧ mT (epL m r) ≤ 20 ∧ Ch sg Y (mO (epL m r)) n (mS r) (mT r) ∧ ∀ i, i < 3 * mT r → mO (epL m r) i = mO r i := by
  intro m
  induction m with
  | zero => intro r h hY hW hS hm; omega
  | succ m ih =>
    intro r h hY hW hS hm hT hE
    have h60 := h.1
    have d2 : epL (m + 1) r = if mW (rwM r) = -1000 then (if nI (mY (rwM r)) ≤ nI (mS (rwM r)) then rwM r else if mW (ep1 r) = -1000 then epL m (ep1 r) else ep1 r) else rwM r := rfl
    rw [d2] at hE ⊢
    by_cases g : mW (rwM r) = -1000
    case neg => rw [if_neg g] at hE; exact absurd hE g
    rw [if_pos g] at hE ⊢
    obtain ⟨s1, s2⟩ := rw_S r (by omega) g
    have t1 := rw_T r
    have y1 := rw_Y r
    have kp := rwM_keep r
    have st : Sto sg Y (mO (rwM r)) (mS r) (mS (rwM r)) (mT r) := by
      intro kd fc ck nu
      rcases rd_work (kd := kd) (fc := fc) (ck := ck) (nu := nu) h hY hW rfl hS with ⟨a1, a2, a3, a4, a5⟩ | ⟨b1, b2, b3⟩
      · exact ⟨a1, a3.symm, a5⟩
      · rw [b2] at g; exact absurd g (ne1000 (by omega))
    by_cases g2 : nI (mY (rwM r)) ≤ nI (mS (rwM r))
    · rw [if_pos g2] at hE ⊢
      have e : mS (rwM r) = Y := by
        have := (nI_leI (by omega) (by omega)).mp g2
        omega
      rw [e] at st
      exact ⟨0, by omega, by omega, st, fun i hi => rwM_O r hi⟩
    · rw [if_neg g2] at hE ⊢
      have l1 : mS (rwM r) < Y := by
        rcases Nat.lt_or_ge (mS (rwM r)) Y with q | q
        · exact q
        · exact absurd (nI_le (by omega) (by omega)) g2
      have hX' : SX sg (mB (rwM r)) Y := by rw [kp.2.2.2.2.1]; exact h
      have uE : uM (rwM r) = (mS (rwM r), -1000) := Prod.ext rfl g
      rcases sig1 hX' (x := 59) (by decide) (Nat.le_of_lt l1) with ⟨l3, s3, r3⟩ | ⟨s3, r3⟩
      · have e1 : ep1 r = msu (rwM r) (mS (rwM r) + 1, -1000) := by
          unfold ep1
          rw [y1, hY, s3, if_pos rfl, uE, wt_1 (by decide)]
        have w1 : mW (ep1 r) = -1000 := by rw [e1]
        rw [if_pos w1] at hE ⊢
        obtain ⟨n, n1, n2, n3, n4⟩ := ih (ep1 r) (by rw [e1]; exact hX') (by rw [e1]; exact y1.trans hY) w1 (by rw [e1]; show mS (rwM r) + 1 ≤ Y; omega) (by rw [e1]; show Y < mS (rwM r) + 1 + m; omega) (by rw [e1]; show 3 * mT (rwM r) ≤ mS (rwM r) + 1; omega) hE
        have tE : mT (ep1 r) = mT r + 1 := by rw [e1]; exact t1
        have sE : mS (ep1 r) = mS (rwM r) + 1 := by rw [e1]
        have oE : mO (ep1 r) = mO (rwM r) := by rw [e1]
        rw [tE] at n1 n4
        rw [tE, sE] at n3
        rw [oE] at n4
        refine ⟨n + 1, by omega, n2, ⟨mS (rwM r), l1, r3, fun kd fc ck nu => ?_, n3⟩, fun i hi => (n4 i (by omega)).trans (rwM_O r hi)⟩
        obtain ⟨a, b, c⟩ := st kd fc ck nu
        exact ⟨a, b, c.mv (n4 _ (by omega)) (n4 _ (by omega)) (n4 _ (by omega))⟩
      · have e1 : ep1 r = msu (rwM r) (mS (rwM r) + 1, nI (mS (rwM r))) := by
          unfold ep1
          rw [y1, hY, if_neg s3, uE, wt_0 rfl]
        have w1 : ¬ mW (ep1 r) = -1000 := by rw [e1]; exact ne1000 (by omega)
        rw [if_neg w1] at hE
        exact absurd hE w1
theorem Tok_ok {O : RI} {j : Nat} {v : Int32 × Int32 × Int32 × Int32} (h : TokR O j v) : okT O j := by
  obtain ⟨h0, h⟩ := h
  have low : ∀ f, f ≤ 3 → O (j + 1) = nI f → (O (j + 1) = 0 ∨ O (j + 1) = 1 ∨ O (j + 1) = 2 ∨ O (j + 1) = 3) := by
    intro f hf e
    rw [e]
    rcases (show f = 0 ∨ f = 1 ∨ f = 2 ∨ f = 3 by omega) with rfl | rfl | rfl | rfl
    · exact Or.inl rfl
    · exact Or.inr (Or.inl rfl)
    · exact Or.inr (Or.inr (Or.inl rfl))
    · exact Or.inr (Or.inr (Or.inr rfl))
  rcases h with ⟨k, f, f1, -, f3⟩ | ⟨k, f, c, f1, -, -, -, f3, -⟩ | ⟨k, -⟩ | ⟨k, mn, m1, -, m3⟩
  · rcases k with k | k
    · exact Or.inr (Or.inr ⟨Or.inr (Or.inr (h0.trans k)), low f f1 f3⟩)
    · exact Or.inr (Or.inr ⟨Or.inr (Or.inl (h0.trans k)), low f f1 f3⟩)
  · exact Or.inr (Or.inr ⟨Or.inl (h0.trans k), low f f1 f3⟩)
  · exact Or.inl (h0.trans k)
  · exact Or.inr (Or.inl ⟨h0.trans k, mn, by omega, m3⟩)
theorem Ch_ok {sg : RI} {Y : Nat} {O : RI} : ∀ (n p k : Nat), Ch sg Y O n p k → ∀ i, k ≤ i → i ≤ k + n → okT O (3 * i) := by
  intro n
  induction n with
  | zero =>
    intro p k h i h1 h2
    have : i = k := by omega
    subst this
    exact Tok_ok (h 0 0 0 0).2.2
  | succ n ih =>
    intro p k h i h1 h2
    obtain ⟨p', -, -, hs, hc⟩ := h
    by_cases g : i = k
    · subst g; exact Tok_ok (hs 0 0 0 0).2.2
    · exact ih _ _ hc i (by omega) (by omega)
/-- one work is done on both sides -/
theorem do_one {q : CS} {z O : RI} {j cn : Nat} (hT : Tow (cT q) z) (hc : cn ≤ 6) (hz : cT q 0 7 = nI cn) (hk : TokR O j (cU q).2) :
    (dzR z cn (O j) (O (j + 1)) (O (j + 2)) = 0 ∧ (kDo q cn).1 = 1 ∧ ∃ T', (kDo q cn).2 = sT q T' ∧ Tow T' (dzZ z cn (O j) (O (j + 1)) (O (j + 2)))) ∨
    (¬ dzR z cn (O j) (O (j + 1)) (O (j + 2)) = 0 ∧ (kDo q cn).1 = 0 ∧ (kDo q cn).2 = q ∧ dzZ z cn (O j) (O (j + 1)) (O (j + 2)) = z) := by
  obtain ⟨h0, h⟩ := hk
  rw [h0]
  have isf3 : ∀ f, f ≤ 3 → ¬ isw (nI f) 0 3 = 0 := by
    intro f hf
    rw [show isw (nI f) 0 3 = 1 from isw_in (a := 0) (b := 3) (by omega) hf (by decide)]; decide
  have fo : ∀ f, f ≤ 3 → (8 + 7 * f = 8 ∨ 8 + 7 * f = 15 ∨ 8 + 7 * f = 22 ∨ 8 + 7 * f = 29) := by intro f hf; omega
  rcases h with ⟨k, f, f1, f2, f3⟩ | ⟨k, f, c, f1, c1, f2, c2, f3, c3⟩ | ⟨k, a1, a2⟩ | ⟨k, mn, m1, m2, m3⟩
  · rw [f3]
    have ho := fo f f1
    rcases k with k | k
    · have e1 : kDo q cn = (1, sT q (pkT q (upd (cT q 0) (8 + 7 * f + 5) (if cT q 0 (8 + 7 * f + 5) = 0 then 1 else 0)))) := by
        unfold kDo kWof
        rw [f2, k, if_neg (by decide), if_neg (by decide), if_neg (isf3 f f1), nI_clamp (by omega)]
        exact if_pos rfl
      have e2 : dzZ z cn 98 (nI f) (O (j + 2)) = upd z (8 + 7 * f + 5) (1 - z (8 + 7 * f + 5)) := by
        unfold dzZ hanM
        rw [if_neg (by decide), if_neg (by decide), if_neg (by decide), if_neg (by decide), nI_clamp (by omega)]
      rw [e1, k, e2]
      refine Or.inl ⟨rfl, rfl, _, rfl, ?_⟩
      rw [hT.e (8 + 7 * f + 5) (by omega)]
      rcases (hT.f1 ho).2.2 with b | b
      · rw [b, if_pos rfl, show (1 : Int32) - 0 = 1 from rfl]
        exact hT.bell ho (Or.inr rfl)
      · rw [b, if_neg (by decide), show (1 : Int32) - 1 = 0 from rfl]
        exact hT.bell ho (Or.inl rfl)
    · have e1 : kDo q cn = (1, sT q (pkT q (oilC (8 + 7 * f) (cT q 0)))) := by
        unfold kDo kWof
        rw [f2, k, if_neg (by decide), if_neg (by decide), if_neg (isf3 f f1), nI_clamp (by omega)]
        exact (if_neg (by decide)).trans ((if_neg (by decide)).trans (if_pos rfl))
      have e2 : dzZ z cn 111 (nI f) (O (j + 2)) = oilM (8 + 7 * f) z := by
        unfold dzZ
        rw [if_neg (by decide), if_neg (by decide), if_neg (by decide), if_pos rfl, nI_clamp (by omega)]
      rw [e1, k, e2]
      exact Or.inl ⟨rfl, rfl, _, rfl, hT.oil ho⟩
  · rw [f3, c3]
    have ho := fo f f1
    have e1 : kDo q cn = (1, sT q (pkT q (upd (cT q 0) (8 + 7 * f) (nI (c % 720))))) := by
      unfold kDo kWof
      rw [f2, k, c2, if_neg (by decide), if_neg (by decide), if_neg (isf3 f f1), nI_clamp (by omega), za_r720 (by omega)]
      exact (if_neg (by decide)).trans (if_pos rfl)
    have e2 : dzZ z cn 102 (nI f) (nI (c % 720)) = upd z (8 + 7 * f) (nI (c % 720)) := by
      unfold dzZ
      rw [if_pos rfl, nI_clamp (by omega)]
    rw [e1, k, e2]
    exact Or.inl ⟨rfl, rfl, _, rfl, hT.dial ho (Nat.mod_lt _ (by decide)) rfl⟩
  · rw [a1, a2, k]
    obtain ⟨h1, h2⟩ := hT.hire hz hc (cU q).2.2.2.1 (cU q).2.2.2.2
    have eR : dzR z cn 107 (cU q).2.2.2.1 (cU q).2.2.2.2 = wnh z cn (cU q).2.2.2.1 (cU q).2.2.2.2 := if_pos rfl
    rw [eR, ← h1]
    by_cases g : eoa (cU q).2.2.2.1 (cU q).2.2.2.2 cn (cT q 1) = 0
    · have e1 : kDo q cn = (1, sT q (pk (upd (cT q 0) 7 (nI (cn + 1))) (adL (cU q).2.2.2.1 (cU q).2.2.2.2 cn (cT q 1) (cT q 2)).1 (adL (cU q).2.2.2.1 (cU q).2.2.2.2 cn (cT q 1) (cT q 2)).2 (cT q 3))) := (if_pos k).trans (if_pos g)
      have e2 : dzZ z cn 107 (cU q).2.2.2.1 (cU q).2.2.2.2 = hirM z cn (cU q).2.2.2.1 (cU q).2.2.2.2 := (if_neg (by decide)).trans ((if_pos rfl).trans (if_pos (by rw [← h1]; exact g)))
      rw [e1, e2]
      exact Or.inl ⟨g, rfl, _, rfl, h2 g⟩
    · have e1 : kDo q cn = (0, q) := (if_pos k).trans (if_neg g)
      have e2 : dzZ z cn 107 (cU q).2.2.2.1 (cU q).2.2.2.2 = z := (if_neg (by decide)).trans ((if_pos rfl).trans (if_neg (by rw [← h1]; exact g)))
      rw [e1, e2]
      exact Or.inr ⟨g, rfl, rfl, rfl⟩
  · rw [m3, k]
    have eR : dzR z cn 119 (nI mn) (O (j + 2)) = wnp z (nI mn) := (if_neg (by decide)).trans (if_pos rfl)
    have h1 : eop (cT q 0) (cU q).2.2.2.2 = wnp z (nI mn) := by rw [m2]; exact eop_wnp (hT.e 0 (by omega)) _
    rw [eR]
    by_cases g : wnp z (nI mn) = 0
    · obtain ⟨-, p2⟩ := hT.pass hz hc m1 g
      have e1 : kDo q cn = (1, sT q (pkT q (pmsC cn (cT q 1) (cT q 2) (cT q 3) mn (cT q 0) 0).1)) := by
        unfold kDo
        rw [k, h1, g, m2, nI_clamp (by omega)]
        exact (if_neg (by decide)).trans ((if_pos rfl).trans (if_pos rfl))
      have e2 : dzZ z cn 119 (nI mn) (O (j + 2)) = (pmsM cn mn z 0).1 := by
        unfold dzZ
        rw [if_neg (by decide), if_neg (by decide), if_pos rfl, if_pos g, nI_clamp (by omega)]
      rw [e1, e2]
      exact Or.inl ⟨g, rfl, _, rfl, p2⟩
    · have e1 : kDo q cn = (0, q) := by
        unfold kDo
        rw [k, h1]
        exact (if_neg (by decide)).trans ((if_pos rfl).trans (if_neg g))
      have e2 : dzZ z cn 119 (nI mn) (O (j + 2)) = z := by
        unfold dzZ
        rw [if_neg (by decide), if_neg (by decide), if_pos rfl, if_neg g]
      rw [e1, e2]
      exact Or.inr ⟨g, rfl, rfl, rfl⟩
theorem wo_end {N k : Nat} {q : CS} (h : ¬ (cU q).1 < cN q) : woL (N + 1) k q = (nI k, sU q (cU q)) := by
  have d : woL (N + 1) k q = if (rwF (cX q) (cN q) (cU q)).1 = 0 then (nI k, sU q (rwF (cX q) (cN q) (cU q)).2) else if (kDo (sU q (rwF (cX q) (cN q) (cU q)).2) (cnO q)).1 = 0 then (nI k, (kDo (sU q (rwF (cX q) (cN q) (cU q)).2) (cnO q)).2) else woL N (k + 1) (sU (kDo (sU q (rwF (cX q) (cN q) (cU q)).2) (cnO q)).2 (rsU (cX (kDo (sU q (rwF (cX q) (cN q) (cU q)).2) (cnO q)).2) (cN (kDo (sU q (rwF (cX q) (cN q) (cU q)).2) (cnO q)).2) (cU (kDo (sU q (rwF (cX q) (cN q) (cU q)).2) (cnO q)).2))) := rfl
  rw [d, rwF_out h]
  exact if_pos rfl
theorem wo_stop {N k : Nat} {q q1 : CS} (h1 : (rwF (cX q) (cN q) (cU q)).1 = 1) (hq : q1 = sU q (rwF (cX q) (cN q) (cU q)).2) (hk : (kDo q1 (cnO q)).1 = 0) (hQ : (kDo q1 (cnO q)).2 = q1) : woL (N + 1) k q = (nI k, q1) := by
  have d : woL (N + 1) k q = if (rwF (cX q) (cN q) (cU q)).1 = 0 then (nI k, sU q (rwF (cX q) (cN q) (cU q)).2) else if (kDo (sU q (rwF (cX q) (cN q) (cU q)).2) (cnO q)).1 = 0 then (nI k, (kDo (sU q (rwF (cX q) (cN q) (cU q)).2) (cnO q)).2) else woL N (k + 1) (sU (kDo (sU q (rwF (cX q) (cN q) (cU q)).2) (cnO q)).2 (rsU (cX (kDo (sU q (rwF (cX q) (cN q) (cU q)).2) (cnO q)).2) (cN (kDo (sU q (rwF (cX q) (cN q) (cU q)).2) (cnO q)).2) (cU (kDo (sU q (rwF (cX q) (cN q) (cU q)).2) (cnO q)).2))) := rfl
  rw [d, ← hq, h1, if_neg (show ¬ (1 : Int32) = 0 by decide), hk, if_pos rfl, hQ]
theorem wo_go {N k : Nat} {q q1 Q : CS} (h1 : (rwF (cX q) (cN q) (cU q)).1 = 1) (hq : q1 = sU q (rwF (cX q) (cN q) (cU q)).2) (hk : (kDo q1 (cnO q)).1 = 1) (hQ : (kDo q1 (cnO q)).2 = Q) : woL (N + 1) k q = woL N (k + 1) (sU Q (rsU (cX Q) (cN Q) (cU Q))) := by
  have d : woL (N + 1) k q = if (rwF (cX q) (cN q) (cU q)).1 = 0 then (nI k, sU q (rwF (cX q) (cN q) (cU q)).2) else if (kDo (sU q (rwF (cX q) (cN q) (cU q)).2) (cnO q)).1 = 0 then (nI k, (kDo (sU q (rwF (cX q) (cN q) (cU q)).2) (cnO q)).2) else woL N (k + 1) (sU (kDo (sU q (rwF (cX q) (cN q) (cU q)).2) (cnO q)).2 (rsU (cX (kDo (sU q (rwF (cX q) (cN q) (cU q)).2) (cnO q)).2) (cN (kDo (sU q (rwF (cX q) (cN q) (cU q)).2) (cnO q)).2) (cU (kDo (sU q (rwF (cX q) (cN q) (cU q)).2) (cnO q)).2))) := rfl
  rw [d, ← hq, h1, if_neg (show ¬ (1 : Int32) = 0 by decide), hk, if_neg (show ¬ (1 : Int32) = 0 by decide), hQ]
/-- the step that both cases of the chain share -/
theorem wo_one {sg : RI} {Y : Nat} {O : RI} {N k p p' : Nat} {q : CS} {z : RI} (hS : Sto sg Y O p p' k) (hX : cX q = sg) (hY : cN q = Y) (hp : (cU q).1 = p) (hT : Tow (cT q) z) (n : Nat) :
    (∃ u', woL (N + 1) k q = (nI (doL O (n + 1) k z).1, sU (sT q (cT q)) u') ∧ Tow (cT q) (doL O (n + 1) k z).2) ∨
    (∃ T' z' u', (rsU sg Y u').1 = (rsF sg Y 59 p').2 ∧ woL (N + 1) k q = woL N (k + 1) (sU (sT q T') (rsU sg Y u')) ∧ doL O (n + 1) k z = doL O n (k + 1) z' ∧ Tow T' z') := by
  obtain ⟨cn, hc, hz⟩ := hT.cn
  have hcn : cnO q = cn := by unfold cnO; rw [hz, nI_clamp (by omega)]
  obtain ⟨w1, w2, w3⟩ : (rwF (cX q) (cN q) (cU q)).1 = 1 ∧ (rwF (cX q) (cN q) (cU q)).2.1 = p' ∧ TokR O (3 * k) (rwF (cX q) (cN q) (cU q)).2.2 := by
    have := hS (cU q).2.1 (cU q).2.2.1 (cU q).2.2.2.1 (cU q).2.2.2.2
    rw [← hp] at this
    rw [hX, hY]; exact this
  obtain ⟨w, hw⟩ : ∃ w, w = (rwF (cX q) (cN q) (cU q)).2 := ⟨_, rfl⟩
  rw [← hw] at w2 w3
  have one := do_one (q := sU q w) (O := O) (j := 3 * k) (cn := cn) (z := z) hT hc hz w3
  have z7 := cn_of hT hz
  rcases one with ⟨r1, r2, T1, r3, r4⟩ | ⟨r1, r2, r3, r4⟩
  · refine Or.inr ⟨T1, _, w, by show (rsF sg Y 59 w.1).2 = _; rw [w2], ?_, doL_s hc z7 r1, r4⟩
    rw [wo_go (q1 := sU q w) (Q := sT (sU q w) T1) w1 (by rw [hw]) (by rw [hcn]; exact r2) (by rw [hcn]; exact r3)]
    show woL N (k + 1) (sU (sT (sU q w) T1) (rsU (cX q) (cN q) w)) = _
    rw [hX, hY]
  · refine Or.inl ⟨w, ?_, ?_⟩
    · rw [wo_stop (q1 := sU q w) w1 (by rw [hw]) (by rw [hcn]; exact r2) (by rw [hcn]; exact r3), doL_f hc z7 r1]
    · rw [doL_f hc z7 r1, r4]; exact hT
theorem wo_do {sg : RI} {Y : Nat} {O : RI} : ∀ (n N k p : Nat) (q : CS) (z : RI), Ch sg Y O n p k → n + 2 ≤ N → cX q = sg → cN q = Y → (cU q).1 = p → Tow (cT q) z →
    ∃ T' u', woL N k q = (nI (doL O (n + 1) k z).1, sU (sT q T') u') ∧ Tow T' (doL O (n + 1) k z).2 := by
  intro n
  induction n with
  | zero =>
    intro N k p q z hC hN hX hY hp hT
    obtain ⟨N', rfl⟩ : ∃ N', N = N' + 1 + 1 := ⟨N - 2, by omega⟩
    rcases wo_one (N := N' + 1) hC hX hY hp hT 0 with ⟨u', a, b⟩ | ⟨T1, z1, u', a, b, c, d⟩
    · exact ⟨cT q, u', a, b⟩
    · have eY : (rsU sg Y u').1 = Y := by
        rw [a]
        have : rsF sg Y 59 Y = (0, Y) := if_neg (Nat.lt_irrefl Y)
        rw [this]
      have e1 : woL (N' + 1) (k + 1) (sU (sT q T1) (rsU sg Y u')) = (nI (k + 1), sU (sT q T1) (rsU sg Y u')) := wo_end (q := sU (sT q T1) (rsU sg Y u')) (by show ¬ (rsU sg Y u').1 < cN q; rw [eY, hY]; exact Nat.lt_irrefl Y)
      rw [c, b, e1]
      exact ⟨T1, rsU sg Y u', rfl, d⟩
  | succ n ih =>
    intro N k p q z hC hN hX hY hp hT
    obtain ⟨N', rfl⟩ : ∃ N', N = N' + 1 := ⟨N - 1, by omega⟩
    obtain ⟨p', c1, c2, c3, c4⟩ := hC
    rcases wo_one (N := N') c3 hX hY hp hT (n + 1) with ⟨u', a, b⟩ | ⟨T1, z1, u', a, b, c, d⟩
    · exact ⟨cT q, u', a, b⟩
    · rw [c2] at a
      obtain ⟨T2, u2, e1, e2⟩ := ih N' (k + 1) (p' + 1) (sU (sT q T1) (rsU sg Y u')) z1 c4 (by omega) hX hY a d
      rw [c, b]
      exact ⟨T2, u2, e1, e2⟩
/-- the calls -/
theorem HR.keep {q : CS} {r e : MS} (h : HR q r) (k : keepR e r) : HR q e := by
  obtain ⟨h1, h2, h3, h4, h5⟩ := h
  obtain ⟨k1, k2, k3, k4, k5, k6, k7, k8⟩ := k
  unfold HR
  rw [k6, k2]
  exact ⟨h1, h2, h3, h4, h5⟩
theorem Rel.keep {q : CS} {r e : MS} (h : Rel q r) (k : keepR e r) : Rel q e := by
  obtain ⟨h1, h2, ⟨h3, h4⟩, h5, h6, h7⟩ := h
  have hH := h2.keep k
  obtain ⟨k1, k2, k3, k4, k5, k6, k7, k8⟩ := k
  refine ⟨by rw [k1]; exact h1, hH, ⟨h3, by rw [k7, k3]; exact h4⟩, by rw [k8]; exact h5, h6, fun j hj => by rw [k5]; exact h7 j hj⟩
theorem Rel.u {q : CS} {r : MS} (h : Rel q r) (u : RQ) : Rel (sU q u) r := h
theorem XR.sx {q : CS} {r : MS} (h : XR q r) : SX (cX q) (mB r) (cN q) := ⟨h.2.1, h.2.2⟩
theorem fe_all {q : CS} {r : MS} (h : XR q r) (nf : Nat) (hnf : mY r < 0 + nf) : (feF (cX q) (cN q) (cU q)).1 = mW (epL nf (epS r)) := by
  refine fe_ep (cN q) nf 0 (cU q).2.1 (cU q).2.2.1 (cU q).2.2.2.1 (cU q).2.2.2.2 (epS r) h.sx h.1.symm rfl rfl (Nat.zero_le _) (Nat.le_refl _) ?_
  rw [h.1]; exact hnf
theorem eps_keep (r : MS) : keepR (epS r) r := ⟨rfl, rfl, rfl, rfl, rfl, rfl, rfl, rfl⟩
theorem p_errPos {q : CS} {r : MS} (h : Rel q r) (nf : Nat) (hnf : mY r < 0 + nf) : (kErrPos q).1 = mW (epL nf (epS r)) ∧ Rel (kErrPos q).2 (epL nf (epS r)) :=
  ⟨fe_all h.2.2.2 nf hnf, (h.u _).keep ((epL_keep nf (epS r)).tr (eps_keep r))⟩
theorem told_ok {q : CS} {r : MS} (h : Rel q r) (nf : Nat) (hnf : mY r < 0 + nf) (hW : mW (epL nf (epS r)) = -1000) : ∃ n, mT (epL nf (epS r)) = n + 1 ∧ mT (epL nf (epS r)) ≤ 20 ∧ Ch (cX q) (cN q) (mO (epL nf (epS r))) n 0 0 := by
  obtain ⟨n, n1, n2, n3, -⟩ := ep_ch nf (epS r) (h.2.2.2.sx) h.2.2.2.1.symm rfl (Nat.zero_le _) (by rw [h.2.2.2.1]; exact hnf) (Nat.le_refl _) hW
  exact ⟨n, by rw [n1]; show 0 + n + 1 = n + 1; omega, n2, n3⟩
theorem told_okT {q : CS} {r : MS} (h : Rel q r) (nf : Nat) (hnf : mY r < 0 + nf) (hW : mW (epL nf (epS r)) = -1000) : mT (epL nf (epS r)) ≤ 20 ∧ ∀ k, k < mT (epL nf (epS r)) → okT (mO (epL nf (epS r))) (3 * k) := by
  obtain ⟨n, n1, n2, n3⟩ := told_ok h nf hnf hW
  exact ⟨n2, fun k hk => Ch_ok n 0 0 n3 k (Nat.zero_le _) (by omega)⟩
theorem p_work {q : CS} {r : MS} (h : Rel q r) (nf ng : Nat) (hnf : mY r < 0 + nf) (hng : 60 = ng) : (kWorkn q ng).1 = (mWork r nf).1 ∧ Rel (kWorkn q ng).2 (mWork r nf).2 := by
  have e := fe_all h.2.2.2 nf hnf
  unfold kWorkn mWork
  rw [e]
  by_cases g : mW (epL nf (epS r)) = -1000
  · rw [if_pos g, if_pos g]
    obtain ⟨n, n1, n2, n3⟩ := told_ok h nf hnf g
    have kp := (epL_keep nf (epS r)).tr (eps_keep r)
    generalize epL nf (epS r) = ee at n1 n2 n3 kp
    have hE : HR q ee := h.2.1.keep kp
    have hT : Tow (cT q) (mZ ee) := by rw [kp.1]; exact h.1
    obtain ⟨T', u', a, b⟩ := wo_do n ng 0 0 (kWork0 q) (mZ ee) n3 (by omega) rfl rfl rfl hT
    unfold mWk
    rw [a, n1]
    refine ⟨rfl, b, rec_HR (T := T') (z := (doL (mO ee) (n + 1) 0 (mZ ee)).2) hE hT, ?_, rfl, Nat.zero_le _, fun j hj => absurd hj (Nat.not_lt_zero j)⟩
    obtain ⟨h3, h4⟩ := h.2.2.1
    refine ⟨h3, ?_⟩
    show (cS q = 0 ∧ mI ee = 0) ∨ (cS q = 1 ∧ mI ee = 1 ∧ Tow (cV q) (mK ee))
    rw [kp.2.2.2.2.2.2.1, kp.2.2.1]; exact h4
  · rw [if_neg g, if_neg g]
    exact ⟨rfl, (h.u _).keep ((epL_keep nf (epS r)).tr (eps_keep r))⟩

/-! PURE PART: the relation of both sides -/
def Tow (T : TT) (z : RI) : Prop := ∃ (t cn : Nat) (S R : Nat → Nat), t ≤ 999999 ∧ RTx t cn (T 0) (T 1) (T 2) (T 3) z S R
def HR (q : CS) (r : MS) : Prop := cL q < 5 ∧ mM r ≤ 5 ∧ cC q = nI (mM r) ∧ (∀ j, j < 5 → bok (cH q j 0)) ∧ ∀ i, i < mM r → Tow (cH q ((cL q + 5 - i) % 5)) (fun j => mP r ((mM r - 1 - i) * 48 + j))
def SR (q : CS) (r : MS) : Prop := bok (cV q 0) ∧ ((cS q = 0 ∧ mI r = 0) ∨ (cS q = 1 ∧ mI r = 1 ∧ Tow (cV q) (mK r)))
def XR (q : CS) (r : MS) : Prop := cN q = mY r ∧ cN q ≤ 60 ∧ ∀ j, j < cN q → cX q j = mB r j ∧ ∃ k, 33 ≤ k ∧ k ≤ 126 ∧ mB r j = nI k
def Rel (q : CS) (r : MS) : Prop := Tow (cT q) (mZ r) ∧ HR q r ∧ SR q r ∧ XR q r
theorem FZ.ext {z z' : RI} (h : FZ z) (hz : ∀ i, i < 48 → z' i = z i) : FZ z' := by
  obtain ⟨a, b, c, d⟩ := h
  exact ⟨a.mv (hz _ (by omega)) (hz _ (by omega)) (hz _ (by omega)), b.mv (hz _ (by omega)) (hz _ (by omega)) (hz _ (by omega)), c.mv (hz _ (by omega)) (hz _ (by omega)) (hz _ (by omega)), d.mv (hz _ (by omega)) (hz _ (by omega)) (hz _ (by omega))⟩
theorem KR.ext {cn : Nat} {sf wf z z' : RI} {S R : Nat → Nat} (h : KR cn sf wf z S R) (hc : cn ≤ 6) (hz : ∀ i, i < 48 → z' i = z i) : KR cn sf wf z' S R := by
  obtain ⟨h1, h2, h3, h4, h5, h6, h7⟩ := h
  refine ⟨h1, fun j hj => ?_, fun j hj => ?_, h4, h5, fun k hk => ?_, h7⟩
  · rw [hz _ (by omega)]; exact h2 j hj
  · rw [hz _ (by omega)]; exact h3 j hj
  · obtain ⟨j, a, b, c⟩ := h6 k hk
    exact ⟨j, a, b, by rw [hz _ (by omega)]; exact c⟩
theorem RTx.ext {t cn : Nat} {x sf wf sg z z' : RI} {S R : Nat → Nat} (h : RTx t cn x sf wf sg z S R) (hz : ∀ i, i < 48 → z' i = z i) : RTx t cn x sf wf sg z' S R := by
  obtain ⟨h1, h2, hF, h0, h7, hc, hK⟩ := h
  exact ⟨fun i hi => (h1 i hi).trans (hz i (by omega)).symm, fun k hk => (h2 k hk).trans (hz _ (by omega)).symm, hF.ext hz, (hz 0 (by omega)).trans h0, (hz 7 (by omega)).trans h7, hc, hK.ext hc hz⟩
theorem Tow.ext {T : TT} {z z' : RI} (h : Tow T z) (hz : ∀ i, i < 48 → z' i = z i) : Tow T z' := by
  obtain ⟨t, cn, S, R, ht, h⟩ := h
  exact ⟨t, cn, S, R, ht, h.ext hz⟩
theorem Tow.b {T : TT} {z : RI} (h : Tow T z) : bok (T 0) := by
  obtain ⟨t, cn, S, R, ht, h1, h2, ⟨a, b, c, d⟩, -⟩ := h
  intro k hk
  rw [h1 _ (by omega)]
  rcases (show k = 0 ∨ k = 1 ∨ k = 2 ∨ k = 3 by omega) with rfl | rfl | rfl | rfl
  · exact a.2.2
  · exact b.2.2
  · exact c.2.2
  · exact d.2.2
/-- recording on both sides -/
theorem jmin5 {n : Nat} (h : n ≤ 5) : jmin (nI n + 1) 5 = nI (if n = 5 then 5 else n + 1) := by
  rw [nI_1]
  show (if 5 < nI (n + 1) then 5 else nI (n + 1)) = _
  by_cases g : n = 5
  · subst g; rfl
  · rw [if_neg g, if_neg (fun z => g (by have := (za_lt (x := 5) (a := 5) rfl rfl (by decide) (by omega)).mp z; omega))]
theorem rec_HR {q : CS} {r : MS} {T : TT} {z : RI} (h : HR q r) (hT : Tow (cT q) (mZ r)) : HR (Rc q T) (mz (mrec r) z) := by
  obtain ⟨hL, hM, hC, hb, hp⟩ := h
  have eN : mM (mz (mrec r) z) = if mM r = 5 then 5 else mM r + 1 := rfl
  have eL : cL (Rc q T) = (cL q + 1) % 5 := rfl
  have eH : ∀ j, cH (Rc q T) j = if j = (cL q + 1) % 5 then pk (cT q 0) (cT q 1) (cT q 2) (cT q 3) else cH q j := fun j => rfl
  have eP : mP (mz (mrec r) z) = rcP r := rfl
  refine ⟨Nat.mod_lt _ (by decide), ?_, ?_, fun j hj => ?_, fun i hi => ?_⟩
  · rw [eN]; split <;> omega
  · rw [eN]
    show jmin (cC q + 1) 5 = _
    rw [hC]; exact jmin5 hM
  · rw [eH]
    split
    · exact hT.b
    · exact hb j hj
  · rw [eN] at hi
    rw [eL, eN, eP]
    by_cases g : i = 0
    · subst g
      rw [eH, if_pos (by omega)]
      refine hT.ext (fun j hj => ?_)
      unfold rcP
      by_cases g5 : mM r = 5
      · rw [if_pos g5, if_pos g5]
        show (if 4 * 48 ≤ (5 - 1 - 0) * 48 + j ∧ (5 - 1 - 0) * 48 + j < 4 * 48 + 48 then mZ r ((5 - 1 - 0) * 48 + j - 4 * 48) else _) = _
        rw [if_pos (by omega)]
        exact congrArg (mZ r) (by omega)
      · rw [if_neg g5, if_neg g5]
        show (if mM r * 48 ≤ (mM r + 1 - 1 - 0) * 48 + j ∧ (mM r + 1 - 1 - 0) * 48 + j < mM r * 48 + 48 then mZ r ((mM r + 1 - 1 - 0) * 48 + j - mM r * 48) else _) = _
        rw [show mM r + 1 - 1 - 0 = mM r by omega, if_pos (by omega)]
        exact congrArg (mZ r) (by omega)
    · have hi4 : i ≤ 4 ∧ i - 1 < mM r := by split at hi <;> omega
      rw [eH, if_neg (by omega), show ((cL q + 1) % 5 + 5 - i) % 5 = (cL q + 5 - (i - 1)) % 5 by omega]
      refine (hp (i - 1) hi4.2).ext (fun j hj => ?_)
      unfold rcP
      by_cases g5 : mM r = 5
      · rw [if_pos g5, if_pos g5]
        show (if 4 * 48 ≤ (5 - 1 - i) * 48 + j ∧ (5 - 1 - i) * 48 + j < 4 * 48 + 48 then _ else (if (5 - 1 - i) * 48 + j < 192 then mP r ((5 - 1 - i) * 48 + j + 48) else _)) = _
        rw [if_neg (by omega), if_pos (by omega), g5]
        exact congrArg (mP r) (by omega)
      · rw [if_neg g5, if_neg g5]
        have e1 : (mM r + 1 - 1 - i) * 48 + j < mM r * 48 := by
          have : mM r + 1 - 1 - i + 1 ≤ mM r := by omega
          have := Nat.mul_le_mul_right 48 this
          omega
        show (if mM r * 48 ≤ (mM r + 1 - 1 - i) * 48 + j ∧ (mM r + 1 - 1 - i) * 48 + j < mM r * 48 + 48 then _ else mP r ((mM r + 1 - 1 - i) * 48 + j)) = _
        rw [if_neg (by omega), show mM r - 1 - (i - 1) = mM r + 1 - 1 - i by omega]
theorem Rel.step {q : CS} {r : MS} {T : TT} {z : RI} (h : Rel q r) (hT : Tow T z) : Rel (Rc q T) (mz (mrec r) z) := ⟨hT, rec_HR h.2.1 h.1, h.2.2.1, h.2.2.2⟩
/-- one face is changed on both sides -/
theorem Tow.put {T : TT} {z x' z' : RI} {o : Nat} (h : Tow T z) (ho : o = 8 ∨ o = 15 ∨ o = 22 ∨ o = 29) (he : eqT (T 0) z → eqT x' z') (h1 : F1 z o → F1 z' o) (h2 : ∀ i, (i < o ∨ o + 7 ≤ i) → z' i = z i) : Tow (pk x' (T 1) (T 2) (T 3)) z' := by
  obtain ⟨t, cn, S, R, ht, e1, e2, hF, h0, h7, hc, hK⟩ := h
  exact ⟨t, cn, S, R, ht, he e1, fun k hk => (e2 k hk).trans (h2 _ (by omega)).symm, hF.one ho (h1 (hF.pick ho)) h2, (h2 0 (by omega)).trans h0, (h2 7 (by omega)).trans h7, hc, hK.mv (fun i hi => h2 i (by omega))⟩
theorem Tow.f1 {T : TT} {z : RI} {o : Nat} (h : Tow T z) (ho : o = 8 ∨ o = 15 ∨ o = 22 ∨ o = 29) : F1 z o := by
  obtain ⟨t, cn, S, R, ht, e1, e2, hF, -⟩ := h
  exact hF.pick ho
theorem Tow.e {T : TT} {z : RI} (h : Tow T z) : eqT (T 0) z := by
  obtain ⟨t, cn, S, R, ht, e1, -⟩ := h
  exact e1
theorem face_o {a : Int32} (h : ¬ isw a 0 3 = 0) : (8 + 7 * a.toNatClampNeg = 8 ∨ 8 + 7 * a.toNatClampNeg = 15 ∨ 8 + 7 * a.toNatClampNeg = 22 ∨ 8 + 7 * a.toNatClampNeg = 29) := by
  obtain ⟨k, hk, rfl⟩ := isw_nI (n := 3) (by decide) h
  rw [nI_clamp (by omega)]; omega
/-- set, setting -/
theorem p_setting {q : CS} {r : MS} (h : Rel q r) (a : Int32) : kSetting q a = mSetting r a := by
  obtain ⟨⟨t, cn, S, R, ht, e1, e2, -⟩, -⟩ := h
  unfold kSetting mSetting
  by_cases g : isset a = 0
  · rw [if_pos g]; exact (if_pos g).symm
  · rw [if_neg g]
    refine Eq.trans ?_ (if_neg g).symm
    obtain ⟨k, hk, rfl⟩ := isw_nI (n := 2) (by decide) g
    rw [nI_clamp (by omega)]
    exact e2 k (by omega)
theorem Tow.set {T : TT} {z : RI} {k : Nat} {b : Int32} (h : Tow T z) (hk : k < 3) : Tow (pk (T 0) (T 1) (T 2) (upd (T 3) k b)) (upd z (1 + k) b) := by
  obtain ⟨t, cn, S, R, ht, e1, e2, hF, h0, h7, hc, hK⟩ := h
  refine ⟨t, cn, S, R, ht, fun i hi => ?_, fun j hj => ?_, hF.up (by omega), (up_n (by omega)).trans h0, (up_n (by omega)).trans h7, hc, hK.mv (fun i hi => up_n (by omega))⟩
  · rw [up_n (by omega)]; exact e1 i hi
  · show upd (T 3) k b j = upd z (1 + k) b (1 + j)
    by_cases g : j = k
    · subst g; rw [up_s, up_s]
    · rw [up_n g, up_n (by omega)]; exact e2 j hj
theorem p_set {q : CS} {r : MS} (h : Rel q r) (a b : Int32) : (kSet q a b).1 = (mSet r a b).1 ∧ Rel (kSet q a b).2 (mSet r a b).2 := by
  have e2 : ∀ k, k < 3 → cT q 3 k = mZ r (1 + k) := by
    obtain ⟨⟨t, cn, S, R, ht, e1, e2, -⟩, -⟩ := h
    exact e2
  have bad : irM a b = 0 → kSet q a b = (-1002, q) → (kSet q a b).1 = (mSet r a b).1 ∧ Rel (kSet q a b).2 (mSet r a b).2 := by
    intro g1 g2
    have g3 : mSet r a b = (-1002, r) := if_pos g1
    rw [g2, g3]; exact ⟨rfl, h⟩
  by_cases g : isset a = 0
  · refine bad ?_ (if_pos g)
    unfold irM
    rw [if_neg (fun w => absurd g (by rw [w]; decide)), if_neg (fun w => absurd g (by rw [w]; decide)), if_neg (fun w => absurd g (by rw [w]; decide))]
  · obtain ⟨k, hk, rfl⟩ := isw_nI (n := 2) (by decide) g
    have tk : (nI k).toNatClampNeg = k := nI_clamp (by omega)
    by_cases g2 : isw b (loS (nI k)) (hiS (nI k)) = 0
    · refine bad ?_ ((if_neg g).trans (if_pos g2))
      rcases (show k = 0 ∨ k = 1 ∨ k = 2 by omega) with rfl | rfl | rfl
      · exact (if_pos rfl).trans g2
      · exact (if_neg (by decide)).trans ((if_pos rfl).trans g2)
      · exact (if_neg (by decide)).trans ((if_neg (by decide)).trans ((if_pos rfl).trans (if_pos g2)))
    · have hn : ¬ irM (nI k) b = 0 := by
        rcases (show k = 0 ∨ k = 1 ∨ k = 2 by omega) with rfl | rfl | rfl
        · rw [show irM (nI 0) b = isw b 1 9 from if_pos rfl]; exact g2
        · rw [show irM (nI 1) b = isw b 0 60 from (if_neg (by decide)).trans (if_pos rfl)]; exact g2
        · rw [show irM (nI 2) b = 1 from (if_neg (by decide)).trans ((if_neg (by decide)).trans ((if_pos rfl).trans (if_neg g2)))]; decide
      have e3 : kSet q (nI k) b = (cT q 3 k, Rc q (pk (cT q 0) (cT q 1) (cT q 2) (upd (cT q 3) k b))) := by
        have w : kSet q (nI k) b = (cT q 3 (nI k).toNatClampNeg, Rc q (pk (cT q 0) (cT q 1) (cT q 2) (upd (cT q 3) (nI k).toNatClampNeg b))) := (if_neg g).trans (if_neg g2)
        rw [w, tk]
      have e4 : mSet r (nI k) b = (mZ r (1 + k), mz (mrec r) (upd (mZ r) (1 + k) b)) := by
        have w : mSet r (nI k) b = (mZ r (1 + (nI k).toNatClampNeg), mz (mrec r) (upd (mZ r) (1 + (nI k).toNatClampNeg) b)) := if_neg hn
        rw [w, tk]
      rw [e3, e4]
      exact ⟨e2 k (by omega), h.step (h.1.set (by omega))⟩
/-- gear, oil, dial, bell -/
theorem p_gear {q : CS} {r : MS} (h : Rel q r) (a b : Int32) : (kGear q a b).1 = (mGear r a b).1 ∧ Rel (kGear q a b).2 (mGear r a b).2 := by
  unfold kGear mGear
  by_cases g : isw a 0 3 = 0
  · rw [if_pos g, if_pos (show isf a = 0 from g)]; exact ⟨rfl, h⟩
  rw [if_neg g, if_neg (show ¬ isf a = 0 from g)]
  by_cases g2 : isw b 10 60 = 0
  · rw [if_pos g2, if_pos g2]; exact ⟨rfl, h⟩
  rw [if_neg g2, if_neg g2]
  have ho := face_o g
  refine ⟨h.1.e _ (by omega), h.step (h.1.put ho (fun e => (e.up _ rfl).up _ rfl) (fun f => f.mv ?_ ?_ ?_) (fun i hi => ?_))⟩
  · rw [up_n (by omega), up_n (by omega)]
  · rw [up_n (by omega), up_n (by omega)]
  · rw [up_n (by omega), up_n (by omega)]
  · rw [up_n (by omega), up_n (by omega)]
theorem oil_eq {x z : RI} {o : Nat} (h : F1 z o) (e : x (o + 3) = z (o + 3)) : jmax (x (o + 3) - 1) 0 = oilMR o z ∧ ∃ w, w < 10 ∧ oilMR o z = nI w := by
  obtain ⟨-, ⟨w, hw, ew⟩, -⟩ := h
  obtain ⟨a, k, hk, ek⟩ := za_wear w hw
  have q : jmax (x (o + 3) - 1) 0 = oilMR o z := by
    unfold oilMR
    rw [e, ew]; exact a
  exact ⟨q, k, hk, by rw [← q, e, ew]; exact ek⟩
theorem Tow.oil {T : TT} {z : RI} {o : Nat} (h : Tow T z) (ho : o = 8 ∨ o = 15 ∨ o = 22 ∨ o = 29) : Tow (pk (oilC o (T 0)) (T 1) (T 2) (T 3)) (oilM o z) := by
  obtain ⟨q1, w, hw, ew⟩ := oil_eq (h.f1 ho) (h.e (o + 3) (by omega))
  refine h.put ho (fun e => ?_) (fun f => ?_) (fun i hi => ?_)
  · unfold oilC oilM
    exact (e.up _ q1).up _ rfl
  · obtain ⟨a, -, c⟩ := f
    unfold oilM
    refine ⟨?_, ⟨w, hw, ?_⟩, ?_⟩
    · rw [up_n (by omega), up_n (by omega)]; exact a
    · rw [up_n (by omega), up_s]; exact ew
    · rw [up_n (by omega), up_n (by omega)]; exact c
  · unfold oilM
    rw [up_n (by omega), up_n (by omega)]
theorem p_oil {q : CS} {r : MS} (h : Rel q r) (a : Int32) : (kOil q a).1 = (mOil r a).1 ∧ Rel (kOil q a).2 (mOil r a).2 := by
  unfold kOil mOil
  by_cases g : isw a 0 3 = 0
  · rw [if_pos g, if_pos (show isf a = 0 from g)]; exact ⟨rfl, h⟩
  rw [if_neg g, if_neg (show ¬ isf a = 0 from g)]
  have ho := face_o g
  exact ⟨(oil_eq (h.1.f1 ho) (h.1.e _ (by omega))).1, h.step (h.1.oil ho)⟩
theorem Tow.dial {T : TT} {z : RI} {o d : Nat} {v : Int32} (h : Tow T z) (ho : o = 8 ∨ o = 15 ∨ o = 22 ∨ o = 29) (hd : d < 720) (hv : v = nI d) : Tow (pk (upd (T 0) o v) (T 1) (T 2) (T 3)) (upd z o v) := by
  refine h.put ho (fun e => e.up _ rfl) (fun f => ?_) (fun i hi => up_n (by omega))
  obtain ⟨-, b, c⟩ := f
  refine ⟨⟨d, hd, by rw [up_s]; exact hv⟩, ?_, ?_⟩
  · rw [up_n (by omega)]; exact b
  · rw [up_n (by omega)]; exact c
theorem p_dial {q : CS} {r : MS} (h : Rel q r) (a b : Int32) : (kDial q a b).1 = (mDial r a b).1 ∧ Rel (kDial q a b).2 (mDial r a b).2 := by
  unfold kDial mDial
  by_cases g : isw a 0 3 = 0
  · rw [if_pos g, if_pos (show isf a = 0 from g)]; exact ⟨rfl, h⟩
  rw [if_neg g, if_neg (show ¬ isf a = 0 from g)]
  by_cases g2 : isw b 0 719 = 0
  · rw [if_pos g2, if_pos g2]; exact ⟨rfl, h⟩
  rw [if_neg g2, if_neg g2]
  have ho := face_o g
  obtain ⟨d, hd, rfl⟩ := isw_nI (n := 719) (by decide) g2
  obtain ⟨d0, hd0, ed0⟩ := (h.1.f1 ho).1
  refine ⟨?_, h.step (h.1.dial ho (by omega) rfl)⟩
  have hx := h.1.e (8 + 7 * a.toNatClampNeg) (by omega)
  generalize 8 + 7 * a.toNatClampNeg = o at hx ed0
  dsimp only
  rw [hx, ed0]
  exact (za_dist hd0 (by omega)).symm
theorem Tow.bell {T : TT} {z : RI} {o : Nat} {v : Int32} (h : Tow T z) (ho : o = 8 ∨ o = 15 ∨ o = 22 ∨ o = 29) (hv : v = 0 ∨ v = 1) : Tow (pk (upd (T 0) (o + 5) v) (T 1) (T 2) (T 3)) (upd z (o + 5) v) := by
  refine h.put ho (fun e => e.up _ rfl) (fun f => ?_) (fun i hi => up_n (by omega))
  obtain ⟨a, b, -⟩ := f
  refine ⟨?_, ?_, by rw [up_s]; exact hv⟩
  · rw [up_n (by omega)]; exact a
  · rw [up_n (by omega)]; exact b
theorem p_bell {q : CS} {r : MS} (h : Rel q r) (a : Int32) : (kBell q a).1 = (mBell r a).1 ∧ Rel (kBell q a).2 (mBell r a).2 := by
  unfold kBell mBell
  by_cases g : isw a 0 3 = 0
  · rw [if_pos g, if_pos (show isf a = 0 from g)]; exact ⟨rfl, h⟩
  rw [if_neg g, if_neg (show ¬ isf a = 0 from g)]
  have ho := face_o g
  have e5 := h.1.e (8 + 7 * a.toNatClampNeg + 5) (by omega)
  rw [e5]
  rcases (h.1.f1 ho).2.2 with b | b
  · rw [if_pos b]
    unfold hanM
    rw [b, show (1 : Int32) - 0 = 1 from rfl]
    exact ⟨rfl, h.step (h.1.bell ho (Or.inr rfl))⟩
  · rw [if_neg (by rw [b]; decide)]
    unfold hanM
    rw [b, show (1 : Int32) - 1 = 0 from rfl]
    exact ⟨rfl, h.step (h.1.bell ho (Or.inl rfl))⟩

/-! PURE PART: predictions, the buffer, undo and the saved state -/
theorem isw_nI0 {a : Int32} {n : Nat} (hn : n < 2 ^ 31) (h : ¬ isw a 0 (nI n) = 0) : a.toNatClampNeg ≤ n ∧ a = nI a.toNatClampNeg := by
  obtain ⟨k, hk, rfl⟩ := isw_nI hn h
  rw [nI_clamp (by omega)]
  exact ⟨hk, rfl⟩
theorem Rel.tr {q : CS} {r : MS} (h : Rel q r) (T : TT) : Rel (sR q T) (mas r) := ⟨h.1, h.2.1, h.2.2.1, h.2.2.2⟩
theorem p_spreadIn {q : CS} {r : MS} {cn : Nat} (h : Rel q r) (hz : cT q 0 7 = nI cn) (hc : cn ≤ 6) (a : Int32) : (kSpreadIn q cn a).1 = (mSpreadIn r cn a).1 ∧ Rel (kSpreadIn q cn a).2 (mSpreadIn r cn a).2 := by
  unfold kSpreadIn mSpreadIn
  by_cases g : isw a 0 2000 = 0
  · rw [if_pos g, if_pos g]; exact ⟨rfl, h⟩
  rw [if_neg g, if_neg g]
  obtain ⟨hm, -⟩ := isw_nI0 (n := 2000) (by decide) g
  generalize a.toNatClampNeg = mn at hm ⊢
  obtain ⟨t, S, R, ht, hR⟩ := h.1.at' hz hc
  obtain ⟨⟨e1, -, hF, -⟩, -⟩ := RTx.mins mn 0 hR (by omega)
  have c1 := (sp_eq e1 hF).1
  refine And.intro ?_ (h.tr _)
  dsimp only
  rw [c1]
theorem mt_eq {cn : Nat} {sf wf sg : RI} {S R : Nat → Nat} (sp : Int32) : ∀ (n k t : Nat) (x z : RI), RTx t cn x sf wf sg z S R → t + n + 1 < 2 ^ 30 → (mtL cn sf wf sg sp (n + 1) k x).1 = mtM cn sp n k z := by
  intro n
  induction n with
  | zero =>
    intro k t x z h _
    have c := (sp_eq h.1 h.2.2.1).1
    by_cases g : spM z < sp
    · rw [show mtL cn sf wf sg sp (0 + 1) k x = mtL cn sf wf sg sp 0 (k + 1) (minZ cn x sf wf sg) from if_pos (by rw [c]; exact g)]
      exact (if_pos g).symm
    · rw [show mtL cn sf wf sg sp (0 + 1) k x = (nI k, x) from if_neg (by rw [c]; exact g)]
      exact (if_neg g).symm
  | succ n ih =>
    intro k t x z h ht
    have c := (sp_eq h.1 h.2.2.1).1
    by_cases g : spM z < sp
    · rw [show mtL cn sf wf sg sp (n + 1 + 1) k x = mtL cn sf wf sg sp (n + 1) (k + 1) (minZ cn x sf wf sg) from if_pos (by rw [c]; exact g), show mtM cn sp (n + 1) k z = mtM cn sp n (k + 1) (minM cn z) from if_neg (fun w => (Int32.not_lt.mpr w) g)]
      exact ih (k + 1) (t + 1) _ _ (h.min (by omega)).1 (by omega)
    · rw [show mtL cn sf wf sg sp (n + 1 + 1) k x = (nI k, x) from if_neg (by rw [c]; exact g), show mtM cn sp (n + 1) k z = nI k from if_pos (Int32.not_lt.mp g)]
theorem p_minutesTo {q : CS} {r : MS} {cn : Nat} (h : Rel q r) (hz : cT q 0 7 = nI cn) (hc : cn ≤ 6) (a : Int32) (nf : Nat) (hnf : 0 + nf = 3000) : (kMinutesTo q cn a).1 = (mMinutesTo r cn a nf).1 ∧ Rel (kMinutesTo q cn a).2 (mMinutesTo r cn a nf).2 := by
  have e : 3001 = nf + 1 := by omega
  unfold kMinutesTo mMinutesTo
  rw [e]
  by_cases g : isw a 0 360 = 0
  · rw [if_pos g, if_pos g]; exact ⟨rfl, h⟩
  rw [if_neg g, if_neg g]
  obtain ⟨t, S, R, ht, hR⟩ := h.1.at' hz hc
  exact ⟨mt_eq a nf 0 t _ _ hR (by omega), h.tr _⟩
theorem df_eq {t cn : Nat} {x sf wf sg z : RI} {S R : Nat → Nat} (h : RTx t cn x sf wf sg z S R) (ht : t < 2 ^ 30) : dftC x = dfM z ∧ ∃ s, s ≤ 1440 ∧ dfM z = nI s := by
  obtain ⟨e1, -, ⟨⟨⟨a, ha, ea⟩, -⟩, ⟨⟨b, hb, eb⟩, -⟩, ⟨⟨c, hc, ec⟩, -⟩, ⟨d, hd, ed⟩, -⟩, h0, -⟩ := h
  have hm : t % 720 < 720 := Nat.mod_lt _ (by decide)
  have j0 : jrem (z 0) 720 = nI (t % 720) := by rw [h0]; exact za_r720 (by omega)
  have d1 := dN_le ha hm
  have d2 := dN_le hb hm
  have d3 := dN_le hc hm
  have d4 := dN_le hd hm
  have q : dfM z = nI (0 + dN a (t % 720) + dN b (t % 720) + dN c (t % 720) + dN d (t % 720)) := by
    unfold dfM
    rw [j0, ea, eb, ec, ed, za_dM ha hm, za_dM hb hm, za_dM hc hm, za_dM hd hm, show (0 : Int32) = nI 0 from rfl, nI_add, nI_add, nI_add, nI_add]
  refine ⟨?_, _, by omega, q⟩
  rw [q]
  unfold dftC
  rw [e1 8 (by omega), e1 15 (by omega), e1 22 (by omega), e1 29 (by omega), e1 0 (by omega), j0, ea, eb, ec, ed, za_dC ha hm, za_dC hb hm, za_dC hc hm, za_dC hd hm, show (0 : Int32) = nI 0 from rfl, nI_add, nI_add, nI_add, nI_add]
theorem oil_out {q : CS} {r : MS} {cn mn k : Nat} (h : Rel q r) (hz : cT q 0 7 = nI cn) (hc : cn ≤ 6) (hm : mn ≤ 2000) (hk : k < 4) : dftC (eaZn q cn k mn) = dfM (mboF r cn mn k) ∧ ∃ s, s ≤ 1440 ∧ dfM (mboF r cn mn k) = nI s := by
  have ho : 8 + 7 * k = 8 ∨ 8 + 7 * k = 15 ∨ 8 + 7 * k = 22 ∨ 8 + 7 * k = 29 := by omega
  have hT := h.1.oil ho
  have hz7 : pk (oilC (8 + 7 * k) (cT q 0)) (cT q 1) (cT q 2) (cT q 3) 0 7 = nI cn := by
    show oilC (8 + 7 * k) (cT q 0) 7 = nI cn
    unfold oilC
    rw [up_n (by omega), up_n (by omega)]; exact hz
  obtain ⟨t, S, R, ht, hR⟩ := hT.at' hz7 hc
  obtain ⟨hR2, -⟩ := RTx.mins mn 0 hR (by omega)
  exact df_eq hR2 (by omega)
theorem bo_eq {q : CS} {r : MS} {cn mn : Nat} (h : Rel q r) (hz : cT q 0 7 = nI cn) (hc : cn ≤ 6) (hm : mn ≤ 2000) : ∀ (n k : Nat) (b u : Int32), k + n = 4 → boL q cn mn n k b u = boM r cn mn n k b u := by
  intro n
  induction n with
  | zero => exact fun k b u _ => rfl
  | succ n ih =>
    intro k b u hk
    have c := (oil_out h hz hc hm (k := k) (by omega)).1
    by_cases g : u ≤ dfM (mboF r cn mn k)
    · rw [show boL q cn mn (n + 1) k b u = boL q cn mn n (k + 1) b u from if_pos (by rw [c]; exact g), show boM r cn mn (n + 1) k b u = boM r cn mn n (k + 1) b u from if_pos g]
      exact ih _ _ _ (by omega)
    · rw [show boL q cn mn (n + 1) k b u = boL q cn mn n (k + 1) (nI k) (dftC (eaZn q cn k mn)) from if_neg (by rw [c]; exact g), show boM r cn mn (n + 1) k b u = boM r cn mn n (k + 1) (nI k) (dfM (mboF r cn mn k)) from if_neg g, c]
      exact ih _ _ _ (by omega)
theorem p_bestOil {q : CS} {r : MS} {cn mn : Nat} (h : Rel q r) (hz : cT q 0 7 = nI cn) (hc : cn ≤ 6) (hm : mn < 2 ^ 31) (h14 : 1440 = nI mn) : (kBestOiln q cn mn).1 = mBestOiln r cn mn ∧ Rel (kBestOiln q cn mn).2 (mas r) := by
  have em : mn = 1440 := ((nI_eq (a := 1440) (by decide) hm).mp h14).symm
  have hm2 : mn ≤ 2000 := by omega
  clear em h14
  refine ⟨?_, h.tr _⟩
  obtain ⟨c, s, hs, es⟩ := oil_out h hz hc hm2 (k := 0) (by omega)
  have g : ¬ (1441 : Int32) ≤ dftC (eaZn q cn 0 mn) := by
    rw [c, es]
    exact fun w => absurd ((za_le (x := 1441) (a := 1441) rfl rfl (by decide) (by omega)).mp w) (by omega)
  show boL q cn mn (3 + 1) 0 0 1441 = boM r cn mn 3 1 0 (dfM (mboF r cn mn 0))
  rw [show boL q cn mn (3 + 1) 0 0 1441 = boL q cn mn 3 (0 + 1) (nI 0) (dftC (eaZn q cn 0 mn)) from if_neg g, c, nI_0]
  exact bo_eq h hz hc hm2 3 1 _ _ (by omega)
/-- the buffer -/
theorem p_append {q : CS} {r : MS} (h : Rel q r) (a : Int32) : (kAppend q a).1 = (mAppend r a).1 ∧ Rel (kAppend q a).2 (mAppend r a).2 := by
  obtain ⟨hT, hH, hS, hN, h60, hX⟩ := id h
  unfold kAppend mAppend
  by_cases g : isw a 33 126 = 0
  · rw [if_pos g, if_pos g]; exact ⟨rfl, h⟩
  rw [if_neg g, if_neg g, hN]
  by_cases g2 : mY r = 60
  · rw [if_neg (by rw [g2]; decide), if_pos (by rw [g2]; rfl)]; exact ⟨rfl, h⟩
  · rw [if_pos ((za_lt (a := mY r) (y := 60) (b := 60) rfl rfl (by omega) (by decide)).mpr (by omega)), if_neg (fun w => g2 ((za_eq (y := 60) (b := 60) rfl rfl (by omega) (by decide)).mp w))]
    refine ⟨rfl, hT, hH, hS, rfl, by show mY r + 1 ≤ 60; omega, fun j hj => ?_⟩
    have hj' : j < mY r + 1 := hj
    show upd (cX q) (mY r) a j = upd (mB r) (mY r) a j ∧ ∃ k, 33 ≤ k ∧ k ≤ 126 ∧ upd (mB r) (mY r) a j = nI k
    by_cases c : j = mY r
    · rw [c, up_s, up_s]
      obtain ⟨k, k1, k2, k3⟩ := isw_lo (a := 33) (b := 126) (by decide) g (by decide)
      exact ⟨rfl, k, k1, k2, k3⟩
    · rw [up_n c, up_n c]; exact hX j (by omega)
theorem p_clear {q : CS} {r : MS} (h : Rel q r) : (kClear q).1 = (mClear r).1 ∧ Rel (kClear q).2 (mClear r).2 := by
  obtain ⟨hT, hH, hS, hN, h60, hX⟩ := id h
  refine ⟨congrArg nI hN, hT, hH, hS, rfl, Nat.zero_le _, fun j hj => absurd hj (Nat.not_lt_zero j)⟩
/-- undo, save, restore -/
theorem p_undo {q : CS} {r : MS} (h : Rel q r) : (kUndo q).1 = (mUndo r).1 ∧ Rel (kUndo q).2 (mUndo r).2 := by
  obtain ⟨hT, ⟨hL, hM, hC, hb, hp⟩, hS, hX⟩ := id h
  unfold kUndo mUndo
  rw [hC]
  by_cases g : mM r = 0
  · rw [if_pos (by rw [g]; decide), if_pos g]; exact ⟨rfl, h⟩
  · rw [if_neg (nI_ne0 (by omega) (by omega)), if_neg g]
    have e1 : nI (mM r) - 1 = nI (mM r - 1) := pk_sub (b := 1) (by omega)
    refine ⟨e1, ?_, ⟨Nat.mod_lt _ (by decide), by show mM r - 1 ≤ 5; omega, e1, hb, fun i hi => ?_⟩, hS, hX⟩
    · have := hp 0 (by omega)
      rw [show (cL q + 5 - 0) % 5 = cL q by omega, Nat.sub_zero] at this
      exact this
    · have hi' : i < mM r - 1 := hi
      have := hp (i + 1) (by omega)
      rw [show (cL q + 5 - (i + 1)) % 5 = ((cL q + 4) % 5 + 5 - i) % 5 by omega, show mM r - 1 - (i + 1) = mM r - 1 - 1 - i by omega] at this
      exact this
theorem p_save {q : CS} {r : MS} (h : Rel q r) : (kSave q).1 = mZ r 0 ∧ Rel (kSave q).2 (mkp r) := by
  obtain ⟨hT, hH, hS, hX⟩ := id h
  exact ⟨hT.e 0 (by omega), hT, hH, ⟨hT.b, Or.inr ⟨rfl, rfl, hT⟩⟩, hX⟩
theorem p_restore {q : CS} {r : MS} (h : Rel q r) : (kRestore q).1 = (mRestore r).1 ∧ Rel (kRestore q).2 (mRestore r).2 := by
  obtain ⟨hT, hH, ⟨hb, hS⟩, hX⟩ := id h
  unfold kRestore mRestore
  rcases hS with ⟨s1, s2⟩ | ⟨s1, s2, s3⟩
  · rw [if_pos s1, if_pos s2]; exact ⟨rfl, h⟩
  · rw [if_neg (by rw [s1]; decide), if_neg (by rw [s2]; decide)]
    exact ⟨s3.e 0 (by omega), h.step s3⟩
/-- the start -/
theorem rel_0 : Rel q0C r0M := by
  have t0 : Tow T0 zM0 := by
    refine ⟨0, 0, fun _ => 0, fun _ => 0, by omega, fun i hi => ?_, fun k hk => ?_, ⟨?_, ?_, ?_, ?_⟩, rfl, rfl, by omega, fun k hk => absurd hk (by omega), fun k hk => absurd hk (by omega), fun k hk => absurd hk (by omega), fun i j hi => absurd hi (by omega), fun i j _ hj => absurd hj (by omega), fun k hk => absurd hk (by omega), fun k hk => absurd hk (by omega)⟩
    · have key : ∀ i, i < 36 → (i = 0 ∨ 4 ≤ i) → z0 i = zM0 i := by decide +kernel
      exact key i (by omega) (by omega)
    · have key : ∀ k, k < 3 → sVal 2 k = zM0 (1 + k) := by decide +kernel
      exact key k hk
    · exact ⟨⟨0, by omega, by decide +kernel⟩, ⟨0, by omega, by decide +kernel⟩, Or.inr (by decide +kernel)⟩
    · exact ⟨⟨0, by omega, by decide +kernel⟩, ⟨0, by omega, by decide +kernel⟩, Or.inl (by decide +kernel)⟩
    · exact ⟨⟨0, by omega, by decide +kernel⟩, ⟨0, by omega, by decide +kernel⟩, Or.inl (by decide +kernel)⟩
    · exact ⟨⟨0, by omega, by decide +kernel⟩, ⟨0, by omega, by decide +kernel⟩, Or.inl (by decide +kernel)⟩
  exact ⟨t0, ⟨by decide, by decide, rfl, fun j _ => t0.b, fun i hi => absurd hi (Nat.not_lt_zero i)⟩, ⟨t0.b, Or.inl ⟨rfl, rfl⟩⟩, rfl, Nat.zero_le _, fun j hj => absurd hj (Nat.not_lt_zero j)⟩

/-! PURE PART: calls of the tower and its keepers -/
theorem wnp_add {z : RI} {t m : Nat} (h0 : z 0 = nI t) (ht : t ≤ 999999) (hm : m ≤ 2000) (h : wnp z (nI m) = 0) : t + m ≤ 999999 := by
  unfold wnp at h
  by_cases g : isw (nI m) 1 2000 = 0
  · rw [if_pos g] at h; exact absurd h (by decide)
  rw [if_neg g] at h
  by_cases g2 : z 0 + nI m ≤ 999999
  · rw [h0, nI_add] at g2
    exact (za_le (y := 999999) (b := 999999) rfl rfl (by omega) (by decide)).mp g2
  · rw [if_neg g2] at h; exact absurd h (by decide)
theorem wnp_rng {z : RI} {a : Int32} (h : wnp z a = 0) : ∃ m, m ≤ 2000 ∧ a = nI m := by
  unfold wnp at h
  by_cases g : isw a 1 2000 = 0
  · rw [if_pos g] at h; exact absurd h (by decide)
  · obtain ⟨m, -, hm, e⟩ := isw_lo (a := 1) (b := 2000) (by decide) g (by decide)
    exact ⟨m, hm, e⟩
theorem wnp_ge {z : RI} {a : Int32} : 0 ≤ wnp z a ↔ wnp z a = 0 := by
  unfold wnp
  split
  · decide
  · split
    · decide
    · decide
theorem eop_wnp {x z : RI} (h : x 0 = z 0) (a : Int32) : eop x a = wnp z a := by unfold eop wnp; rw [h]
/-- minutes pass -/
theorem Tow.pass {T : TT} {z : RI} {cn m : Nat} (h : Tow T z) (hz : T 0 7 = nI cn) (hc : cn ≤ 6) (hm : m ≤ 2000) (hw : wnp z (nI m) = 0) :
    (pmsC cn (T 1) (T 2) (T 3) m (T 0) 0).2 = (pmsM cn m z 0).2 ∧ Tow (pk (pmsC cn (T 1) (T 2) (T 3) m (T 0) 0).1 (T 1) (T 2) (T 3)) (pmsM cn m z 0).1 := by
  obtain ⟨t, cn', S, R, ht, h⟩ := h
  have h7 : cn' = cn := by
    have q1 := h.1 7 (by omega)
    rw [hz, h.2.2.2.2.1] at q1
    exact ((nI_eq (by omega) (by have := h.2.2.2.2.2.1; omega)).mp q1).symm
  subst h7
  have h0 := h.2.2.2.1
  have hb := wnp_add h0 ht hm hw
  obtain ⟨a, b⟩ := RTx.mins m 0 h (by omega)
  exact ⟨b, t + m, cn', S, R, hb, a⟩
theorem cn_of {T : TT} {z : RI} {cn : Nat} (h : Tow T z) (hz : T 0 7 = nI cn) : z 7 = nI cn := by
  rw [← hz]; exact (h.e 7 (by omega)).symm
theorem Tow.cn {T : TT} {z : RI} (h : Tow T z) : ∃ cn, cn ≤ 6 ∧ T 0 7 = nI cn := by
  obtain ⟨t, cn, S, R, ht, h1, h2, hF, h0, h7, hc, hK⟩ := h
  exact ⟨cn, hc, (h1 7 (by omega)).trans h7⟩
/-- the same tower, its number of keepers known -/
theorem Tow.at' {T : TT} {z : RI} {cn : Nat} (h : Tow T z) (hz : T 0 7 = nI cn) (hc : cn ≤ 6) : ∃ (t : Nat) (S R : Nat → Nat), t ≤ 999999 ∧ RTx t cn (T 0) (T 1) (T 2) (T 3) z S R := by
  obtain ⟨t, cn', S, R, ht, h⟩ := h
  have h7 : cn' = cn := by
    have q1 := h.1 7 (by omega)
    rw [hz, h.2.2.2.2.1] at q1
    exact ((nI_eq (by omega) (by have := h.2.2.2.2.2.1; omega)).mp q1).symm
  subst h7
  exact ⟨t, S, R, ht, h⟩
theorem p_pass {q : CS} {r : MS} {cn : Nat} (h : Rel q r) (hz : cT q 0 7 = nI cn) (hc : cn ≤ 6) (a : Int32) : (kPass q cn a).1 = (mPass r cn a).1 ∧ Rel (kPass q cn a).2 (mPass r cn a).2 := by
  have e0 := eop_wnp (h.1.e 0 (by omega)) a
  unfold kPass mPass
  rw [e0]
  by_cases g : wnp (mZ r) a = 0
  · rw [if_pos g, if_pos (wnp_ge.mpr g)]
    obtain ⟨m, hm, rfl⟩ := wnp_rng g
    rw [nI_clamp (by omega)]
    obtain ⟨p1, p2⟩ := h.1.pass hz hc hm g
    exact ⟨p1, h.step p2⟩
  · rw [if_neg g, if_neg (fun w => g (wnp_ge.mp w))]
    exact ⟨rfl, h⟩
theorem wnh_ge {z : RI} {cn : Nat} {a b : Int32} : 0 ≤ wnh z cn a b ↔ wnh z cn a b = 0 := by
  unfold wnh
  split
  · decide
  · split
    · decide
    · split
      · split
        · decide
        · decide
      · decide
theorem Tow.hire {T : TT} {z : RI} {cn : Nat} (h : Tow T z) (hz : T 0 7 = nI cn) (hc : cn ≤ 6) (a b : Int32) : eoa a b cn (T 1) = wnh z cn a b ∧ (eoa a b cn (T 1) = 0 → Tow (pk (upd (T 0) 7 (nI (cn + 1))) (adL a b cn (T 1) (T 2)).1 (adL a b cn (T 1) (T 2)).2 (T 3)) (hirM z cn a b)) := by
  obtain ⟨t, S, R, ht, e1, e2, hF, h0, h7, -, hK⟩ := h.at' hz hc
  refine ⟨eoa_eq hK hc a b, fun he => ?_⟩
  obtain ⟨c6, S', R', hK'⟩ := hK.hire hc he
  refine ⟨t, cn + 1, S', R', ht, fun i hi => ?_, fun k hk => ?_, ?_, ?_, ?_, by omega, hK'⟩
  · show upd (T 0) 7 (nI (cn + 1)) i = _
    by_cases g : i = 7
    · subst g; rw [up_s]; unfold hirM; rw [up_s]
    · rw [up_n g, hirM_n g (by omega)]; exact e1 i hi
  · exact (e2 k hk).trans (hirM_n (by omega) (by omega)).symm
  · obtain ⟨f1, f2, f3, f4⟩ := hF
    exact ⟨f1.mv (hirM_n (by omega) (by omega)) (hirM_n (by omega) (by omega)) (hirM_n (by omega) (by omega)), f2.mv (hirM_n (by omega) (by omega)) (hirM_n (by omega) (by omega)) (hirM_n (by omega) (by omega)), f3.mv (hirM_n (by omega) (by omega)) (hirM_n (by omega) (by omega)) (hirM_n (by omega) (by omega)), f4.mv (hirM_n (by omega) (by omega)) (hirM_n (by omega) (by omega)) (hirM_n (by omega) (by omega))⟩
  · exact (hirM_n (by omega) (by omega)).trans h0
  · unfold hirM; rw [up_s]
theorem p_hire {q : CS} {r : MS} {cn : Nat} (h : Rel q r) (hz : cT q 0 7 = nI cn) (hc : cn ≤ 6) (a b : Int32) : (kHire q cn a b).1 = (mHire r cn a b).1 ∧ Rel (kHire q cn a b).2 (mHire r cn a b).2 := by
  obtain ⟨e0, hT⟩ := h.1.hire hz hc a b
  unfold kHire mHire
  by_cases g : eoa a b cn (cT q 1) = 0
  · rw [if_pos g, if_pos (wnh_ge.mpr (e0 ▸ g))]
    exact ⟨rfl, h.step (hT g)⟩
  · rw [if_neg g, if_neg (fun w => g (e0.trans (wnh_ge.mp w)))]
    exact ⟨e0, h⟩
theorem p_dismiss {q : CS} {r : MS} {cn : Nat} (h : Rel q r) (hz : cT q 0 7 = nI cn) (hc : cn ≤ 6) (a : Int32) : (kDismiss q cn a).1 = (mDismiss r cn a).1 ∧ Rel (kDismiss q cn a).2 (mDismiss r cn a).2 := by
  obtain ⟨t, S, R, ht, e1, e2, hF, h0, h7, -, hK⟩ := h.1.at' hz hc
  unfold kDismiss mDismiss
  by_cases g : hsL (cT q 1) a cn 0 = 0
  · rw [if_pos g, if_pos ((has_iff hK hc a).mp g)]
    exact ⟨rfl, h⟩
  · rw [if_neg g, if_neg (fun w => g ((has_iff hK hc a).mpr w))]
    obtain ⟨b, b1, b2, b3, b4, S', R', hK'⟩ := hK.dismiss hc g
    rw [b2, nI_clamp (by omega), b4]
    refine ⟨b3, h.step ⟨t, cn - 1, S', R', ht, fun i hi => ?_, fun k hk => ?_, ?_, ?_, disM_7, by omega, hK'⟩⟩
    · show upd (cT q 0) 7 (nI (cn - 1)) i = _
      by_cases g7 : i = 7
      · subst g7; rw [up_s, disM_7]
      · rw [up_n g7, disM_n g7 (by omega)]; exact e1 i hi
    · exact (e2 k hk).trans (disM_n (by omega) (by omega)).symm
    · obtain ⟨f1, f2, f3, f4⟩ := hF
      exact ⟨f1.mv (disM_n (by omega) (by omega)) (disM_n (by omega) (by omega)) (disM_n (by omega) (by omega)), f2.mv (disM_n (by omega) (by omega)) (disM_n (by omega) (by omega)) (disM_n (by omega) (by omega)), f3.mv (disM_n (by omega) (by omega)) (disM_n (by omega) (by omega)) (disM_n (by omega) (by omega)), f4.mv (disM_n (by omega) (by omega)) (disM_n (by omega) (by omega)) (disM_n (by omega) (by omega))⟩
    · exact (disM_n (by omega) (by omega)).trans h0
theorem rsZ_x {x z sf wf sg sg' : RI} {cn : Nat} (h : eqT x z) (h1 : sg 1 = sg' 1) : eqT (rsZ cn x sf wf sg) (rsZ cn z sf wf sg') ∧ rsR cn x sf wf sg = rsR cn z sf wf sg' := by
  unfold rsZ rsR
  rw [tok_x (h 0 (by omega)), h1]
  by_cases g2 : tok cn z sf wf = -1000
  · rw [if_pos g2, if_pos g2, if_pos g2, if_pos g2]; exact ⟨h, rfl⟩
  · rw [if_neg g2, if_neg g2, if_neg g2, if_neg g2]
    obtain ⟨a, b⟩ := rsL_eq (due := tok cn z sf wf) (tol := sg' 1) 4 8 _ _ 0 (by omega) (by omega) h
    exact ⟨a.up _ (by rw [a 6 (by omega), b]), b⟩
theorem p_reset {q : CS} {r : MS} {cn : Nat} (h : Rel q r) (hz : cT q 0 7 = nI cn) (hc : cn ≤ 6) : (kReset q cn).1 = (mReset r cn).1 ∧ Rel (kReset q cn).2 (mReset r cn).2 := by
  obtain ⟨t, S, R, ht, e1, e2, hF, h0, h7, -, hK⟩ := h.1.at' hz hc
  unfold kReset mReset
  rw [hz, h7]
  by_cases g : cn = 0
  · subst g
    rw [if_pos (by decide), if_pos (by decide)]; exact ⟨rfl, h⟩
  · rw [if_neg (nI_ne0 (by omega) (by omega)), if_neg (nI_ne0 (by omega) (by omega))]
    obtain ⟨r1, r2, r3, r4, r5⟩ := rz_eq ⟨hF, h0, h7, hc, hK⟩ (by omega) (by omega)
    obtain ⟨s1, s2⟩ := rsZ_x (cn := cn) (sf := cT q 1) (wf := cT q 2) (sg := cT q 3) (sg' := sgR (mZ r)) e1 (e2 1 (by omega))
    refine ⟨s2.trans r2.symm, h.step ⟨t, cn, S, R, ht, ?_, fun k hk => (e2 k hk).trans (r4 _ (by omega)).symm, r3, r5.trans h0, (r4 7 (by omega)).trans h7, hc, hK.mv (fun i hi => r4 i (by omega))⟩⟩
    rw [r1]; exact s1
theorem p_keeperTime {q : CS} {r : MS} {cn : Nat} (h : Rel q r) (hz : cT q 0 7 = nI cn) (hc : cn ≤ 6) : tok cn (cT q 0) (cT q 1) (cT q 2) = mKeeperTime r cn := by
  obtain ⟨t, S, R, ht, e1, e2, hF, h0, h7, -, hK⟩ := h.1.at' hz hc
  unfold mKeeperTime
  rw [h7]
  by_cases g : cn = 0
  · subst g
    rw [if_pos (by decide)]; exact tok_none
  · rw [if_neg (nI_ne0 (by omega) (by omega))]
    exact (tok_due hK (by omega) (by omega) h0 (e1 0 (by omega))).1
theorem p_keeper {q : CS} {r : MS} {cn : Nat} (h : Rel q r) (hz : cT q 0 7 = nI cn) (hc : cn ≤ 6) (a b : Int32) : kKeeper q cn a b = mKeeper r cn a b := by
  obtain ⟨t, S, R, ht, e1, e2, hF, h0, h7, -, hK⟩ := h.1.at' hz hc
  unfold kKeeper mKeeper
  by_cases c1 : isw a 0 1439 = 0
  · rw [if_pos c1, if_pos c1]
  rw [if_neg c1, if_neg c1]
  by_cases c2 : isw b 0 2 = 0
  · rw [if_pos c2, if_pos c2]
  rw [if_neg c2, if_neg c2, h7]
  by_cases g : cn = 0
  · rw [if_pos g, if_pos (by rw [g]; decide)]
  · rw [if_neg g, if_neg (nI_ne0 (by omega) (by omega))]
    obtain ⟨m, hm, rfl⟩ := isw_nI (n := 1439) (by decide) c1
    obtain ⟨-, -, -, w4, w5⟩ := watch hK (m := m) (by omega) (by omega)
    unfold mKeeperW
    rw [w4, w5, until_eq hK hc (by omega) (by omega)]
/-- what there is -/
theorem dist_z {x z : RI} {o o2 : Nat} (ho : F1 z o) (ho2 : F1 z o2) (e : x o = z o) (e2 : x o2 = z o2) : ∃ a b, a < 720 ∧ b < 720 ∧ z o = nI a ∧ z o2 = nI b ∧ distC (x o) (x o2) = nI (dN a b) ∧ distM (z o) (z o2) = nI (dN a b) := by
  obtain ⟨⟨a, ha, ea⟩, -⟩ := ho
  obtain ⟨⟨b, hb, eb⟩, -⟩ := ho2
  exact ⟨a, b, ha, hb, ea, eb, by rw [e, e2, ea, eb]; exact za_dC ha hb, by rw [ea, eb]; exact za_dM ha hb⟩
theorem p_face {q : CS} {r : MS} (h : Rel q r) (a b : Int32) : kFace q a b = mFace r a b := by
  unfold kFace mFace
  by_cases g : isw a 0 3 = 0
  · rw [if_pos g, if_pos (show isf a = 0 from g)]
  rw [if_neg g, if_neg (show ¬ isf a = 0 from g)]
  have ho := face_o g
  have hf := h.1.f1 ho
  have he := h.1.e
  generalize 8 + 7 * a.toNatClampNeg = o at ho hf
  unfold kFaceP mFaceP
  obtain ⟨t, cn, S, R, ht, e1, e2, hF, h0, h7, hc, hK⟩ := h.1
  by_cases b7 : b = 7
  · subst b7
    rw [if_neg (by decide), if_neg (by decide), if_neg (by decide), if_neg (by decide), if_neg (by decide), if_neg (by decide), if_neg (by decide), if_pos rfl, if_pos rfl, he o (by omega), he 0 (by omega), h0, za_r720 (by omega)]
    obtain ⟨⟨d, hd, ed⟩, -⟩ := hf
    rw [ed]
    exact (za_dist hd (Nat.mod_lt _ (by decide))).symm
  · rw [if_neg b7, if_neg b7]
    by_cases g2 : isw b 0 6 = 0
    · rw [if_pos g2, if_neg (fun w => absurd g2 (by rw [w]; decide)), if_neg (fun w => absurd g2 (by rw [w]; decide)), if_neg (fun w => absurd g2 (by rw [w]; decide)), if_neg (fun w => absurd g2 (by rw [w]; decide)), if_neg (fun w => absurd g2 (by rw [w]; decide)), if_neg (fun w => absurd g2 (by rw [w]; decide)), if_neg (fun w => absurd g2 (by rw [w]; decide))]
    · rw [if_neg g2]
      obtain ⟨k, hk, rfl⟩ := isw_nI (n := 6) (by decide) g2
      rw [nI_clamp (by omega), ← he (o + k) (by omega)]
      rcases (show k = 0 ∨ k = 1 ∨ k = 2 ∨ k = 3 ∨ k = 4 ∨ k = 5 ∨ k = 6 by omega) with rfl | rfl | rfl | rfl | rfl | rfl | rfl
      · exact if_pos rfl
      · exact (if_neg (by decide)).trans (if_pos rfl)
      · exact (if_neg (by decide)).trans ((if_neg (by decide)).trans (if_pos rfl))
      · exact (if_neg (by decide)).trans ((if_neg (by decide)).trans ((if_neg (by decide)).trans (if_pos rfl)))
      · exact (if_neg (by decide)).trans ((if_neg (by decide)).trans ((if_neg (by decide)).trans ((if_neg (by decide)).trans (if_pos rfl))))
      · refine (if_neg (by decide)).trans ((if_neg (by decide)).trans ((if_neg (by decide)).trans ((if_neg (by decide)).trans ((if_neg (by decide)).trans ((if_pos rfl).trans ?_)))))
        rw [he (o + 5) (by omega)]
        rcases hf.2.2 with w | w
        · rw [if_pos w]; exact w.symm
        · rw [if_neg (by rw [w]; decide)]; exact w.symm
      · exact (if_neg (by decide)).trans ((if_neg (by decide)).trans ((if_neg (by decide)).trans ((if_neg (by decide)).trans ((if_neg (by decide)).trans ((if_neg (by decide)).trans (if_pos rfl))))))
/-- the spread -/
theorem jmax_n {a b : Nat} (ha : a < 2 ^ 31) (hb : b < 2 ^ 31) : jmax (nI a) (nI b) = nI (max a b) := by
  show (if nI a < nI b then nI b else nI a) = _
  by_cases g : a < b
  · rw [if_pos (nI_lt g hb), Nat.max_eq_right (by omega)]
  · rw [if_neg (nI_nlt (by omega) ha), Nat.max_eq_left (by omega)]
theorem mxM_n {a b : Nat} (ha : a < 2 ^ 31) (hb : b < 2 ^ 31) : mxM (nI a) (nI b) = nI (max b a) := by
  unfold mxM
  by_cases g : a ≤ b
  · rw [if_pos (nI_le g hb), Nat.max_eq_left g]
  · rw [if_neg (nI_ge (by omega) ha), Nat.max_eq_right (by omega)]
theorem sp_eq {x z : RI} (h : eqT x z) (hF : FZ z) : spC x = spM z ∧ ∃ n, n ≤ 360 ∧ spM z = nI n := by
  obtain ⟨⟨⟨a, ha, ea⟩, -⟩, ⟨⟨b, hb, eb⟩, -⟩, ⟨⟨c, hc, ec⟩, -⟩, ⟨d, hd, ed⟩, -⟩ := hF
  have x8 := (h 8 (by omega)).trans ea
  have x15 := (h 15 (by omega)).trans eb
  have x22 := (h 22 (by omega)).trans ec
  have x29 := (h 29 (by omega)).trans ed
  have lab := dN_le ha hb
  have lac := dN_le ha hc
  have lad := dN_le ha hd
  have lbc := dN_le hb hc
  have lbd := dN_le hb hd
  have lcd := dN_le hc hd
  have cab := dN_comm b a
  have cac := dN_comm c a
  have cad := dN_comm d a
  have cbc := dN_comm c b
  have cbd := dN_comm d b
  have ccd := dN_comm d c
  have m6 : spM z = nI (max (max (max (max (max (max 0 (dN a b)) (dN a c)) (dN b c)) (dN a d)) (dN b d)) (dN c d)) := by
    unfold spM
    rw [ea, eb, ec, ed, za_dM hd hc, za_dM hd hb, za_dM hd ha, za_dM hc hb, za_dM hc ha, za_dM hb ha, cab, cac, cad, cbc, cbd, ccd]
    rw [show (0 : Int32) = nI 0 from rfl, mxM_n (by omega) (by omega), mxM_n (by omega) (by omega), mxM_n (by omega) (by omega), mxM_n (by omega) (by omega), mxM_n (by omega) (by omega), mxM_n (by omega) (by omega)]
  refine ⟨?_, _, ?_, m6⟩
  · rw [m6]
    unfold spC
    rw [x8, x15, x22, x29, za_dC ha ha, za_dC ha hb, za_dC ha hc, za_dC ha hd, za_dC hb ha, za_dC hb hb, za_dC hb hc, za_dC hb hd, za_dC hc ha, za_dC hc hb, za_dC hc hc, za_dC hc hd, za_dC hd ha, za_dC hd hb, za_dC hd hc, za_dC hd hd, dN_self, dN_self, dN_self, dN_self, cab, cac, cad, cbc, cbd, ccd]
    generalize dN a b = u1 at *
    generalize dN a c = u2 at *
    generalize dN b c = u3 at *
    generalize dN a d = u4 at *
    generalize dN b d = u5 at *
    generalize dN c d = u6 at *
    rw [show (0 : Int32) = nI 0 from rfl]
    have s1 : jmax (nI 0) (nI 0) = nI 0 := rfl
    rw [s1, jmax_n (a := 0) (by omega) (by omega)]
    rw [jmax_n (a := max 0 u1) (by omega) (by omega)]
    rw [jmax_n (a := max (max 0 u1) u2) (by omega) (by omega)]
    rw [jmax_n (a := max (max (max 0 u1) u2) u4) (by omega) (by omega), show max (max (max (max 0 u1) u2) u4) u1 = max (max (max 0 u1) u2) u4 by omega]
    rw [jmax_n (a := max (max (max 0 u1) u2) u4) (by omega) (by omega), show max (max (max (max 0 u1) u2) u4) 0 = max (max (max 0 u1) u2) u4 by omega]
    rw [jmax_n (a := max (max (max 0 u1) u2) u4) (by omega) (by omega)]
    rw [jmax_n (a := max (max (max (max 0 u1) u2) u4) u3) (by omega) (by omega)]
    rw [jmax_n (a := max (max (max (max (max 0 u1) u2) u4) u3) u5) (by omega) (by omega), show max (max (max (max (max (max 0 u1) u2) u4) u3) u5) u2 = max (max (max (max (max 0 u1) u2) u4) u3) u5 by omega]
    rw [jmax_n (a := max (max (max (max (max 0 u1) u2) u4) u3) u5) (by omega) (by omega), show max (max (max (max (max (max 0 u1) u2) u4) u3) u5) u3 = max (max (max (max (max 0 u1) u2) u4) u3) u5 by omega]
    rw [jmax_n (a := max (max (max (max (max 0 u1) u2) u4) u3) u5) (by omega) (by omega), show max (max (max (max (max (max 0 u1) u2) u4) u3) u5) 0 = max (max (max (max (max 0 u1) u2) u4) u3) u5 by omega]
    rw [jmax_n (a := max (max (max (max (max 0 u1) u2) u4) u3) u5) (by omega) (by omega)]
    rw [jmax_n (a := max (max (max (max (max (max 0 u1) u2) u4) u3) u5) u6) (by omega) (by omega), show max (max (max (max (max (max (max 0 u1) u2) u4) u3) u5) u6) u4 = max (max (max (max (max (max 0 u1) u2) u4) u3) u5) u6 by omega]
    rw [jmax_n (a := max (max (max (max (max (max 0 u1) u2) u4) u3) u5) u6) (by omega) (by omega), show max (max (max (max (max (max (max 0 u1) u2) u4) u3) u5) u6) u5 = max (max (max (max (max (max 0 u1) u2) u4) u3) u5) u6 by omega]
    rw [jmax_n (a := max (max (max (max (max (max 0 u1) u2) u4) u3) u5) u6) (by omega) (by omega), show max (max (max (max (max (max (max 0 u1) u2) u4) u3) u5) u6) u6 = max (max (max (max (max (max 0 u1) u2) u4) u3) u5) u6 by omega]
    rw [jmax_n (a := max (max (max (max (max (max 0 u1) u2) u4) u3) u5) u6) (by omega) (by omega)]
    exact congrArg nI (by omega)
  · omega
theorem p_total {q : CS} {r : MS} (h : Rel q r) (a : Int32) : kTotal q a = mTotal r a := by
  have he := h.1.e
  obtain ⟨t, cn, S, R, ht, e1, e2, hF, -⟩ := h.1
  unfold kTotal mTotal
  rw [he 0 (by omega), he 4 (by omega), he 5 (by omega), he 12 (by omega), he 19 (by omega), he 26 (by omega), he 33 (by omega), he 14 (by omega), he 21 (by omega), he 28 (by omega), he 35 (by omega), he 6 (by omega), he 7 (by omega), (sp_eq e1 hF).1]
theorem fw_eq {x z : RI} (h : eqT x z) (v : Int32) : ∀ (n o : Nat) (q : Int32), o + 7 * n = 36 → 8 ≤ o → fwL x v n o q = cwM z v n o q := by
  intro n
  induction n with
  | zero => exact fun o q _ _ => rfl
  | succ n ih =>
    intro o q ho h8
    have e := h o (by omega)
    by_cases g : z o = v
    · rw [show fwL x v (n + 1) o q = fwL x v n (o + 7) (q + 1) from if_pos (by rw [e]; exact g), show cwM z v (n + 1) o q = cwM z v n (o + 7) (q + 1) from if_pos g]
      exact ih _ _ (by omega) (by omega)
    · rw [show fwL x v (n + 1) o q = fwL x v n (o + 7) q from if_neg (by rw [e]; exact g), show cwM z v (n + 1) o q = cwM z v n (o + 7) (q + 0) from if_neg g, Int32.add_zero]
      exact ih _ _ (by omega) (by omega)
theorem ma_eq {x z : RI} (h : eqT x z) : ∀ (n o : Nat) (b m : Int32), o + 7 * n = 36 → 8 ≤ o → maL x n o b m = mjL z n o b m := by
  intro n
  induction n with
  | zero => exact fun o b m _ _ => rfl
  | succ n ih =>
    intro o b m ho h8
    have e := h o (by omega)
    have c := fw_eq h (z o) 4 8 0 (by omega) (by omega)
    by_cases g : cwM z (z o) 4 8 0 ≤ m
    · rw [show maL x (n + 1) o b m = maL x n (o + 7) b m from if_pos (by rw [e, c]; exact g), show mjL z (n + 1) o b m = mjL z n (o + 7) b m from if_pos g]
      exact ih _ _ _ (by omega) (by omega)
    · have q1 : maL x (n + 1) o b m = maL x n (o + 7) (x o) (fwL x (x o) 4 8 0) := if_neg (by rw [e, c]; exact g)
      rw [q1, e, c, show mjL z (n + 1) o b m = mjL z n (o + 7) (z o) (cwM z (z o) 4 8 0) from if_neg g]
      exact ih _ _ _ (by omega) (by omega)
theorem p_majority {q : CS} {r : MS} (h : Rel q r) : maL (cT q 0) 4 8 0 0 = mjL (mZ r) 4 8 0 0 := ma_eq h.1.e 4 8 0 0 (by omega) (by omega)
theorem p_coming {q : CS} {r : MS} (h : Rel q r) (a b : Int32) (nf : Nat) (hnf : 1 + nf = 1441) : kComing q a b = mComing r a b nf := by
  have he := h.1.e
  obtain ⟨t, cn, S, R, ht, e1, e2, ⟨f1, f2, f3, f4⟩, -⟩ := h.1
  obtain ⟨⟨d0, k0, g0⟩, -, b0⟩ := f1
  obtain ⟨⟨d1, k1, g1⟩, -, b1⟩ := f2
  obtain ⟨⟨d2, k2, g2⟩, -, b2⟩ := f3
  obtain ⟨⟨d3, k3, g3⟩, -, b3⟩ := f4
  obtain ⟨D, hD⟩ : ∃ D : Nat → Nat, D 0 = d0 ∧ D 1 = d1 ∧ D 2 = d2 ∧ D 3 = d3 := ⟨fun k => [d0, d1, d2, d3].getD k 0, rfl, rfl, rfl, rfl⟩
  have hz : DB (mZ r) D (fun k => decide (mZ r (8 + 7 * k + 5) = 1)) := by
    intro k hk
    have bl : ∀ v : Int32, (v = 0 ∨ v = 1) → v = (if decide (v = 1) = true then 1 else 0) := by
      intro v hv
      rcases hv with rfl | rfl
      · rfl
      · rfl
    rcases (show k = 0 ∨ k = 1 ∨ k = 2 ∨ k = 3 by omega) with rfl | rfl | rfl | rfl
    · rw [hD.1]; exact ⟨k0, g0, bl _ b0⟩
    · rw [hD.2.1]; exact ⟨k1, g1, bl _ b1⟩
    · rw [hD.2.2.1]; exact ⟨k2, g2, bl _ b2⟩
    · rw [hD.2.2.2]; exact ⟨k3, g3, bl _ b3⟩
  have hx : DB (cT q 0) D (fun k => decide (mZ r (8 + 7 * k + 5) = 1)) := by
    intro k hk
    rw [he (8 + 7 * k) (by omega), he (8 + 7 * k + 5) (by omega)]
    exact hz k hk
  exact coming_eq hx hz q r rfl rfl a b nf hnf

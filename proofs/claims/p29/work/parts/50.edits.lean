/-! PURE PART: calls that change the tower, on the law's rows -/
section RTE
variable {tm cn : Nat} {q : CS} {x sf wf sg t f k : RI} {S R : Nat → Nat}
theorem RTx.put {o : Nat} {x' f' : RI} (h : RTx tm cn x sf wf sg t f k S R) (ho : o = 8 ∨ o = 15 ∨ o = 22 ∨ o = 29) (he : eqT x' (zc t f' k)) (h1 : F1 (zc t f' k) o) (h2 : ∀ i, (i < o ∨ o + 7 ≤ i) → zc t f' k i = zc t f k i) : RTx tm cn x' sf wf sg t f' k S R :=
  ⟨he, h.2.1, h.2.2.1.one ho h1 h2, (h2 0 (by omega)).trans h.2.2.2.1, (h2 7 (by omega)).trans h.2.2.2.2.1, h.cn6, h.2.2.2.2.2.2.mv (fun i hi => h2 i (by omega))⟩
theorem RTx.p1 (h : RTx tm cn x sf wf sg t f k S R) {i : Nat} (hi : i < 4) : F1 (zc t f k) (8 + 7 * i) := h.2.2.1.pick (by omega)
theorem o_of {i : Nat} (hi : i < 4) : 8 + 7 * i = 8 ∨ 8 + 7 * i = 15 ∨ 8 + 7 * i = 22 ∨ 8 + 7 * i = 29 := by omega
theorem cL_Rc (q : CS) (T : TT) : cL (Rc q T) < 5 := Nat.mod_lt _ (by decide)
theorem isw_no {k a b : Nat} (h1 : a ≤ k) (h2 : k ≤ b) (hb : b < 2 ^ 31) : ¬ isw (nI k) (nI a) (nI b) = 0 := by rw [isw_in h1 h2 hb]; decide
theorem l_gear (h : RQx tm cn q t f k S R) {i j : Nat} (hi : i < 4) (hj : j < 51) {v : Int32} (hv : v = nI (10 + j)) :
    (kGear q (nI i) v).1 = f (7 * i + 1) ∧ RQx tm cn (kGear q (nI i) v).2 t (upd (upd f (7 * i + 1) v) (7 * i + 2) 0) k S R ∧ cL (kGear q (nI i) v).2 < 5 := by
  have e : kGear q (nI i) v = (cT q 0 (8 + 7 * i + 1), Rc q (pkT q (upd (upd (cT q 0) (8 + 7 * i + 1) v) (8 + 7 * i + 2) 0))) := by
    unfold kGear
    rw [if_neg (isw3 hi), if_neg (show ¬ isw v 10 60 = 0 from by rw [hv]; exact isw_no (a := 10) (b := 60) (by omega) (by omega) (by decide)), nI_clamp (by omega)]
  rw [e]
  refine ⟨h.xf (i := 7 * i + 1) (by omega), ?_, cL_Rc _ _⟩
  have ez : zc t (upd (upd f (7 * i + 1) v) (7 * i + 2) 0) k = upd (upd (zc t f k) (8 + 7 * i + 1) v) (8 + 7 * i + 2) 0 := by
    rw [zc_uf (by omega), zc_uf (by omega)]; rfl
  refine RTx.put (x := cT q 0) (f := f) h (o_of hi) ?_ ?_ (fun u hu => ?_)
  · rw [ez]; exact (h.1.up _ rfl).up _ rfl
  · rw [ez]; exact (h.p1 hi).mv (by rw [up_n (by omega), up_n (by omega)]) (by rw [up_n (by omega), up_n (by omega)]) (by rw [up_n (by omega), up_n (by omega)])
  · rw [ez, up_n (by omega), up_n (by omega)]
theorem l_oil (h : RQx tm cn q t f k S R) {i : Nat} (hi : i < 4) {v : Int32} (hv : v = f (7 * i + 3) - (if f (7 * i + 3) ≤ 0 then 0 else 1)) :
    (kOil q (nI i)).1 = v ∧ RQx tm cn (kOil q (nI i)).2 t (upd (upd f (7 * i + 3) v) (7 * i + 2) 0) k S R ∧ cL (kOil q (nI i)).2 < 5 := by
  obtain ⟨h0, ⟨w, hw, ew⟩, h5⟩ := h.p1 hi
  have ef : f (7 * i + 3) = nI w := by rw [← ew]; exact (zc_f (i := 7 * i + 3) (by omega)).symm
  have ex : cT q 0 (8 + 7 * i + 3) = nI w := (h.xf (i := 7 * i + 3) (by omega)).trans ef
  obtain ⟨a1, w2, hw2, a2⟩ := za_wear w hw
  have ev : jmax (cT q 0 (8 + 7 * i + 3) - 1) 0 = v := by
    rw [ex, hv, ef, a1]
    by_cases g : nI w ≤ 0
    · rw [if_pos g, if_pos g, Int32.sub_zero]
      have : w = 0 := by
        rcases Nat.eq_zero_or_pos w with z | z
        · exact z
        · exact absurd g (nI_nle z (by omega))
      rw [this]; rfl
    · rw [if_neg g, if_neg g]
  have e : kOil q (nI i) = (v, Rc q (pkT q (oilC (8 + 7 * i) (cT q 0)))) := by
    unfold kOil
    rw [if_neg (isw3 hi), nI_clamp (by omega), ev]
  rw [e]
  refine ⟨rfl, ?_, cL_Rc _ _⟩
  have ez : zc t (upd (upd f (7 * i + 3) v) (7 * i + 2) 0) k = upd (upd (zc t f k) (8 + 7 * i + 3) v) (8 + 7 * i + 2) 0 := by
    rw [zc_uf (by omega), zc_uf (by omega)]; rfl
  refine RTx.put (x := cT q 0) (f := f) h (o_of hi) ?_ ?_ (fun u hu => ?_)
  · rw [ez]
    show eqT (upd (upd (cT q 0) (8 + 7 * i + 3) (jmax (cT q 0 (8 + 7 * i + 3) - 1) 0)) (8 + 7 * i + 2) 0) _
    rw [ev]; exact (h.1.up _ rfl).up _ rfl
  · rw [ez]
    refine ⟨?_, ⟨w2, hw2, ?_⟩, ?_⟩
    · rw [up_n (by omega), up_n (by omega)]; exact h0
    · rw [up_n (by omega), up_s, ← ev, ex]; exact a2
    · rw [up_n (by omega), up_n (by omega)]; exact h5
  · rw [ez, up_n (by omega), up_n (by omega)]
theorem l_dial (h : RQx tm cn q t f k S R) {i d : Nat} (hi : i < 4) (hd : d < 720) :
    (kDial q (nI i) (nI d)).1 = distC (f (7 * i)) (nI d) ∧ RQx tm cn (kDial q (nI i) (nI d)).2 t (upd f (7 * i) (nI d)) k S R ∧ cL (kDial q (nI i) (nI d)).2 < 5 := by
  have e : kDial q (nI i) (nI d) = (distC (cT q 0 (8 + 7 * i)) (nI d), Rc q (pkT q (upd (cT q 0) (8 + 7 * i) (nI d)))) := by
    unfold kDial
    rw [if_neg (isw3 hi), if_neg (show ¬ isw (nI d) 0 719 = 0 from isw_no (a := 0) (b := 719) (by omega) (by omega) (by decide)), nI_clamp (by omega)]
  rw [e]
  refine ⟨by rw [h.xf (i := 7 * i) (by omega)], ?_, cL_Rc _ _⟩
  have ez : zc t (upd f (7 * i) (nI d)) k = upd (zc t f k) (8 + 7 * i) (nI d) := zc_uf (by omega)
  obtain ⟨-, h3, h5⟩ := h.p1 hi
  refine RTx.put (x := cT q 0) (f := f) h (o_of hi) ?_ ?_ (fun u hu => ?_)
  · rw [ez]; exact h.1.up _ rfl
  · rw [ez]
    refine ⟨⟨d, hd, up_s _ _ _⟩, ?_, ?_⟩
    · rw [up_n (by omega)]; exact h3
    · rw [up_n (by omega)]; exact h5
  · rw [ez, up_n (by omega)]
theorem l_bell (h : RQx tm cn q t f k S R) {i : Nat} (hi : i < 4) :
    (kBell q (nI i)).1 = 1 - f (7 * i + 5) ∧ RQx tm cn (kBell q (nI i)).2 t (upd f (7 * i + 5) (1 - f (7 * i + 5))) k S R ∧ cL (kBell q (nI i)).2 < 5 := by
  obtain ⟨h0, h3, h5⟩ := h.p1 hi
  have ef : f (7 * i + 5) = cT q 0 (8 + 7 * i + 5) := (h.xf (i := 7 * i + 5) (by omega)).symm
  have eb : f (7 * i + 5) = 0 ∨ f (7 * i + 5) = 1 := (h.f1 hi).2.2
  have e : kBell q (nI i) = (1 - f (7 * i + 5), Rc q (pkT q (upd (cT q 0) (8 + 7 * i + 5) (1 - f (7 * i + 5))))) := by
    unfold kBell
    rw [if_neg (isw3 hi), nI_clamp (by omega), ← ef]
    rcases eb with b | b
    · rw [b, if_pos rfl]; rfl
    · rw [b, if_neg (by decide)]; rfl
  have ev : 1 - f (7 * i + 5) = 0 ∨ 1 - f (7 * i + 5) = 1 := by
    rcases eb with b | b
    · right; rw [b]; rfl
    · left; rw [b]; rfl
  rw [e]
  refine ⟨rfl, ?_, cL_Rc _ _⟩
  have ez : zc t (upd f (7 * i + 5) (1 - f (7 * i + 5))) k = upd (zc t f k) (8 + 7 * i + 5) (1 - f (7 * i + 5)) := zc_uf (by omega)
  refine RTx.put (x := cT q 0) (f := f) h (o_of hi) ?_ ?_ (fun u hu => ?_)
  · rw [ez]; exact h.1.up _ rfl
  · rw [ez]
    refine ⟨?_, ?_, by rw [up_s]; exact ev⟩
    · rw [up_n (by omega)]; exact h0
    · rw [up_n (by omega)]; exact h3
  · rw [ez, up_n (by omega)]
theorem l_set (h : RQx tm cn q t f k S R) {i : Nat} (hi : i < 3) {v : Int32} (hv : ¬ isw v (loS (nI i)) (hiS (nI i)) = 0) :
    (kSet q (nI i) v).1 = t (1 + i) ∧ RQx tm cn (kSet q (nI i) v).2 (upd t (1 + i) v) f k S R ∧ cL (kSet q (nI i) v).2 < 5 := by
  have e : kSet q (nI i) v = (cT q 3 i, Rc q (pk (cT q 0) (cT q 1) (cT q 2) (upd (cT q 3) i v))) := by
    unfold kSet
    rw [if_neg (show ¬ isset (nI i) = 0 from isw_no (a := 0) (b := 2) (by omega) (by omega) (by decide)), if_neg hv, nI_clamp (by omega)]
  rw [e]
  obtain ⟨h1, h2, hF, h0, h7, hc, hK⟩ := h
  have ez : zc (upd t (1 + i) v) f k = upd (zc t f k) (1 + i) v := zc_ut (by omega)
  refine ⟨h2 i hi, ⟨?_, ?_, ?_, ?_, ?_, hc, ?_⟩, cL_Rc _ _⟩
  · rw [ez]
    intro j hj
    rw [up_n (by omega)]; exact h1 j hj
  · intro j hj
    show upd (cT q 3) i v j = upd t (1 + i) v (1 + j)
    by_cases g : j = i
    · rw [g, up_s, up_s]
    · rw [up_n g, up_n (by omega)]; exact h2 j hj
  · rw [ez]; exact hF.up (by omega)
  · rw [ez, up_n (by omega)]; exact h0
  · rw [ez, up_n (by omega)]; exact h7
  · rw [ez]; exact hK.mv (fun u hu => up_n (by omega))
/-- hiring -/
theorem l_hire (h : RQx tm cn q t f k S R) {a w : Nat} (ha : a < 1440) (hw : w ≤ 60) :
    (thL k (nI a) cn 0 0 = 0 ∧ cn < 6 ∧ (kHire q cn (nI a) (nI w - 30)).1 = nI (cn + 1) ∧ (∃ S' R', RQx tm (cn + 1) (kHire q cn (nI a) (nI w - 30)).2 (upd t 7 (t 7 + 1)) f (upd (upd k (2 * cn) (nI a)) (2 * cn + 1) (nI w - 30)) S' R') ∧ cL (kHire q cn (nI a) (nI w - 30)).2 < 5) ∨
    (thL k (nI a) cn 0 0 = 0 ∧ cn = 6 ∧ (kHire q cn (nI a) (nI w - 30)).1 = -1004 ∧ (kHire q cn (nI a) (nI w - 30)).2 = q) ∨
    (thL k (nI a) cn 0 0 = 1 ∧ (kHire q cn (nI a) (nI w - 30)).1 = -1003 ∧ (kHire q cn (nI a) (nI w - 30)).2 = q) := by
  have c1 : ¬ isw (nI a) 0 1439 = 0 := isw_no (a := 0) (b := 1439) (by omega) (by omega) (by decide)
  have c2 : ¬ isw (nI w - 30) (-30) 30 = 0 := by
    have key : ∀ w, w ≤ 60 → ¬ isw (nI w - 30) (-30) 30 = 0 := by decide +kernel
    exact key w hw
  have hc6 := h.cn6
  have eq : eoa (nI a) (nI w - 30) cn (cT q 1) = if hsL (cT q 1) (nI a) cn 0 = 0 then (if nI cn < 6 then 0 else -1004) else -1003 := by
    unfold eoa; rw [if_neg c1, if_neg c2]
  rcases th_has h.2.2.2.2.2.2 (nI a) with ⟨g1, g2⟩ | ⟨g1, g2⟩
  · rw [if_pos g2] at eq
    by_cases g6 : cn = 6
    · right; left
      have c6 : ¬ nI cn < 6 := by rw [g6]; decide
      rw [if_neg c6] at eq
      have e : kHire q cn (nI a) (nI w - 30) = (-1004, q) := by
        unfold kHire; rw [eq]; exact if_neg (by decide)
      rw [e]
      exact ⟨g1, g6, rfl, rfl⟩
    · left
      have c6 : nI cn < 6 := nI_lt (b := 6) (by omega) (by decide)
      rw [if_pos c6] at eq
      obtain ⟨h1, h2, hF, h0, h7, hc, hK⟩ := h
      obtain ⟨-, S', R', hK'⟩ := hK.hire hc eq
      have e : kHire q cn (nI a) (nI w - 30) = (nI (cn + 1), Rc q (pk (upd (cT q 0) 7 (nI (cn + 1))) (adL (nI a) (nI w - 30) cn (cT q 1) (cT q 2)).1 (adL (nI a) (nI w - 30) cn (cT q 1) (cT q 2)).2 (cT q 3))) := by
        unfold kHire; rw [eq]; exact if_pos rfl
      rw [e]
      have t7 : t 7 + 1 = nI (cn + 1) := by rw [show t 7 = nI cn from (zc_t (f := f) (k := k) (by decide)).symm.trans h7, nI_1]
      have ez : zc (upd t 7 (t 7 + 1)) f (upd (upd k (2 * cn) (nI a)) (2 * cn + 1) (nI w - 30)) = hirM (zc t f k) cn (nI a) (nI w - 30) := by rw [t7]; exact hir_zc
      refine ⟨g1, by omega, rfl, ⟨S', R', ?_, ?_, ?_, ?_, ?_, by omega, ?_⟩, cL_Rc _ _⟩
      · rw [ez]
        intro i hi
        show upd (cT q 0) 7 (nI (cn + 1)) i = _
        by_cases g : i = 7
        · rw [g, up_s]; unfold hirM; rw [up_s]
        · rw [up_n g, hirM_n g (by omega)]; exact h1 i hi
      · intro j hj
        rw [up_n (by omega)]; exact h2 j hj
      · rw [ez]
        obtain ⟨f1, f2, f3, f4⟩ := hF
        exact ⟨f1.mv (hirM_n (by omega) (by omega)) (hirM_n (by omega) (by omega)) (hirM_n (by omega) (by omega)), f2.mv (hirM_n (by omega) (by omega)) (hirM_n (by omega) (by omega)) (hirM_n (by omega) (by omega)), f3.mv (hirM_n (by omega) (by omega)) (hirM_n (by omega) (by omega)) (hirM_n (by omega) (by omega)), f4.mv (hirM_n (by omega) (by omega)) (hirM_n (by omega) (by omega)) (hirM_n (by omega) (by omega))⟩
      · rw [ez]; exact (hirM_n (by omega) (by omega)).trans h0
      · rw [ez]; unfold hirM; rw [up_s]
      · rw [ez]; exact hK'
  · right; right
    rw [if_neg g2] at eq
    have e : kHire q cn (nI a) (nI w - 30) = (-1003, q) := by
      unfold kHire; rw [eq]; exact if_neg (by decide)
    rw [e]
    exact ⟨g1, rfl, rfl⟩
/-- dismissing -/
theorem l_dismiss (h : RQx tm cn q t f k S R) {b : Nat} (hb : b < cn) {y : RI} (hy : ∀ i, i < 12 → y i = if 2 * b ≤ i ∧ i < 10 then k (i + 2) else k i) :
    (kDismiss q cn (k (2 * b))).1 = k (2 * b + 1) ∧ (∃ S' R', RQx tm (cn - 1) (kDismiss q cn (k (2 * b))).2 (upd t 7 (t 7 - 1)) f y S' R') ∧ cL (kDismiss q cn (k (2 * b))).2 < 5 := by
  obtain ⟨h1, h2, hF, h0, h7, hc, hK⟩ := h
  have t7 : t 7 - 1 = nI (cn - 1) := by rw [show t 7 = nI cn from (zc_t (f := f) (k := k) (by decide)).symm.trans h7]; exact pk_sub (b := 1) (by omega)
  have zk : ∀ j, zc t f k (36 + j) = k j := fun j => zc_k
  have zy : ∀ j, zc (upd t 7 (t 7 - 1)) f y (36 + j) = y j := fun j => zc_k
  have zl : ∀ i, i < 36 → ¬ i = 7 → zc (upd t 7 (t 7 - 1)) f y i = zc t f k i := by
    intro i hi h7
    unfold zc
    by_cases g : i < 8
    · rw [if_pos g, if_pos g, up_n h7]
    · rw [if_neg g, if_neg g, if_pos hi, if_pos hi]
  obtain ⟨a1, a2, a3, S', R', hK'⟩ := hK.dismiss (x := k (2 * b)) (z' := zc (upd t 7 (t 7 - 1)) f y) hb (zk _) (fun j hj => by
    rw [zy, zk, show 36 + 2 * j + 1 = 36 + (2 * j + 1) by omega, zy, show 36 + 2 * shI b j + 1 = 36 + (2 * shI b j + 1) by omega, zk, hy (2 * j) (by omega), hy (2 * j + 1) (by omega)]
    unfold shI
    by_cases g : j < b
    · rw [if_pos g, if_neg (by omega), if_neg (by omega)]; exact ⟨rfl, rfl⟩
    · rw [if_neg g, if_pos (by omega), if_pos (by omega)]; exact ⟨rfl, rfl⟩)
  have e : kDismiss q cn (k (2 * b)) = (zc t f k (36 + 2 * b + 1), Rc q (pk (upd (cT q 0) 7 (nI (cn - 1))) (rmL (k (2 * b)) cn 0 0 0 (cT q 1) (cT q 2)).2.2.1 (rmL (k (2 * b)) cn 0 0 0 (cT q 1) (cT q 2)).2.2.2 (cT q 3))) := by
    unfold kDismiss; rw [if_neg a1, a2, a3]
  rw [e]
  refine ⟨zk (2 * b + 1), ⟨S', R', ?_, ?_, ?_, ?_, ?_, by omega, hK'⟩, cL_Rc _ _⟩
  · intro i hi
    show upd (cT q 0) 7 (nI (cn - 1)) i = _
    by_cases g : i = 7
    · rw [g, up_s, zc_t (by decide), up_s, t7]
    · rw [up_n g, zl i (by omega) g]; exact h1 i hi
  · intro j hj
    rw [up_n (by omega)]; exact h2 j hj
  · obtain ⟨f1, f2, f3, f4⟩ := hF
    exact ⟨f1.mv (zl _ (by omega) (by omega)) (zl _ (by omega) (by omega)) (zl _ (by omega) (by omega)), f2.mv (zl _ (by omega) (by omega)) (zl _ (by omega) (by omega)) (zl _ (by omega) (by omega)), f3.mv (zl _ (by omega) (by omega)) (zl _ (by omega) (by omega)) (zl _ (by omega) (by omega)), f4.mv (zl _ (by omega) (by omega)) (zl _ (by omega) (by omega)) (zl _ (by omega) (by omega))⟩
  · rw [zl 0 (by omega) (by omega)]; exact h0
  · rw [zc_t (by decide), up_s]; exact t7
/-- reset -/
theorem rsZ_x {x z sf wf sg sg' : RI} {cn : Nat} (h : eqT x z) (h1 : sg 1 = sg' 1) : eqT (rsZ cn x sf wf sg) (rsZ cn z sf wf sg') ∧ rsR cn x sf wf sg = rsR cn z sf wf sg' := by
  unfold rsZ rsR
  rw [tok_x (h 0 (by omega)), h1]
  by_cases g2 : tok cn z sf wf = -1000
  · rw [if_pos g2, if_pos g2, if_pos g2, if_pos g2]; exact ⟨h, rfl⟩
  · rw [if_neg g2, if_neg g2, if_neg g2, if_neg g2]
    obtain ⟨a, b⟩ := rsL_eq (due := tok cn z sf wf) (tol := sg' 1) 4 8 _ _ 0 (by omega) (by omega) h
    exact ⟨a.up _ (by rw [a 6 (by omega), b]), b⟩
theorem l_reset0 (h : RQx tm 0 q t f k S R) : (kReset q 0).1 = -1003 ∧ (kReset q 0).2 = q := by
  have e : kReset q 0 = (-1003, q) := if_pos (by rw [h.x7]; rfl)
  rw [e]; exact ⟨rfl, rfl⟩
theorem l_reset (h : RQx tm cn q t f k S R) (ht : tm < 2 ^ 30) (hc : 1 ≤ cn) : ∃ w, RK cn f k t w ∧ (kReset q cn).1 = lrQ f k t w ∧ RQx tm cn (kReset q cn).2 (lrT f k t w) (lrF f k t w) k S R ∧ cL (kReset q cn).2 < 5 := by
  have hc6 := h.cn6
  have hx7 := h.x7
  have hsg := h.sg
  obtain ⟨h1, h2, hT⟩ := h
  obtain ⟨w, w6, w1, w2, w3, w4, w5, w7⟩ := rz_zc hT ht hc
  have e : kReset q cn = (rsR cn (cT q 0) (cT q 1) (cT q 2) (cT q 3), Rc q (pkT q (rsZ cn (cT q 0) (cT q 1) (cT q 2) (cT q 3)))) := if_neg (by rw [hx7]; exact nI_ne0 (by omega) (by omega))
  obtain ⟨s1, s2⟩ := rsZ_x (cn := cn) (sf := cT q 1) (wf := cT q 2) (sg := cT q 3) (sg' := sgR (zc t f k)) h1 (hsg 1 (by omega))
  rw [e]
  obtain ⟨hF, h0, h7, -, hK⟩ := hT
  refine ⟨w, w1, s2.trans w3.symm, ⟨by rw [w2]; exact s1, fun j hj => ?_, by rw [w2]; exact w4, by rw [w2]; exact w7.trans h0, by rw [w2]; exact (w5 7 (by omega)).trans h7, hc6, by rw [w2]; exact hK.mv (fun i hi => w5 i (by omega))⟩, cL_Rc _ _⟩
  rw [show lrT f k t w (1 + j) = t (1 + j) from up_n (by omega)]
  exact h2 j hj
/-- minutes pass -/
theorem l_pass (h : RQx tm cn q t f k S R) {mn : Nat} (h1 : 1 ≤ mn) (h2 : mn ≤ 2000) (ht : tm + mn ≤ 999999) {xx t' f' : RI} {u : Int32} (hp : (xx, u) = pmsC cn (cT q 1) (cT q 2) (cT q 3) mn (cT q 0) 0) (hR : RTx (tm + mn) cn xx (cT q 1) (cT q 2) (cT q 3) t' f' k S R) :
    (kPass q cn (nI mn)).1 = u ∧ RQx (tm + mn) cn (kPass q cn (nI mn)).2 t' f' k S R ∧ cL (kPass q cn (nI mn)).2 < 5 := by
  have e0 : cT q 0 0 = nI tm := (h.xt (i := 0) (by omega)).trans h.t0
  have e1 : eop (cT q 0) (nI mn) = 0 := by
    unfold eop
    rw [if_neg (show ¬ isw (nI mn) 1 2000 = 0 from isw_no (a := 1) (b := 2000) h1 h2 (by decide)), e0, nI_add]
    exact if_pos ((za_le (y := 999999) (b := 999999) rfl rfl (by omega) (by decide)).mpr ht)
  have e : kPass q cn (nI mn) = (u, Rc q (pkT q xx)) := by
    unfold kPass
    rw [if_pos e1, nI_clamp (by omega), ← hp]
  rw [e]
  exact ⟨rfl, hR, cL_Rc _ _⟩
end RTE

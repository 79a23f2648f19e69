/-! PURE PART: predictions, on the law's rows -/
theorem mtL_rng {cn : Nat} {sf wf sg : RI} {sp : Int32} : ∀ (n k : Nat) (z : RI), (mtL cn sf wf sg sp n k z).1 = -1000 ∨ ∃ a, k ≤ a ∧ a < k + n ∧ (mtL cn sf wf sg sp n k z).1 = nI a := by
  intro n
  induction n with
  | zero => exact fun k z => Or.inl rfl
  | succ n ih =>
    intro k z
    by_cases g : spC z < sp
    · rw [show mtL cn sf wf sg sp (n + 1) k z = mtL cn sf wf sg sp n (k + 1) (minZ cn z sf wf sg) from if_pos g]
      rcases ih (k + 1) (minZ cn z sf wf sg) with h | ⟨a, h1, h2, h3⟩
      · exact Or.inl h
      · exact Or.inr ⟨a, by omega, by omega, h3⟩
    · rw [show mtL cn sf wf sg sp (n + 1) k z = (nI k, z) from if_neg g]
      exact Or.inr ⟨k, Nat.le_refl k, by omega, rfl⟩
/-- how far the law's search stands ahead of the minute mi: xx the tower at the minute before -/
def MTi (cn : Nat) (sf wf sg : RI) (sp told : Int32) (xx : RI) (mi : Nat) (fs : Int32) : Prop :=
  (∃ a, a < mi ∧ fs = nI a ∧ told = nI a) ∨ (fs = -1 ∧ ∃ N, mi + N = 3001 ∧ told = (mtL cn sf wf sg sp N mi (minZ cn xx sf wf sg)).1)
theorem mt_0 {cn : Nat} {x sf wf sg : RI} {sp told sv : Int32} {nf : Nat} (hnf : nf = 3000) (ht : told = (mtL cn sf wf sg sp (nf + 1) 0 x).1) (hs : spC x = sv) : MTi cn sf wf sg sp told x 1 (if sv < sp then -1 else 0) := by
  by_cases g : sv < sp
  · rw [if_pos g]
    refine Or.inr ⟨rfl, nf, by omega, ?_⟩
    rw [ht]
    exact congrArg Prod.fst (if_pos (by rw [hs]; exact g))
  · rw [if_neg g]
    refine Or.inl ⟨0, by omega, rfl, ?_⟩
    rw [ht]
    exact congrArg Prod.fst (if_neg (by rw [hs]; exact g))
theorem mt_step {cn mi : Nat} {xx sf wf sg : RI} {sp told sv fs : Int32} (h : MTi cn sf wf sg sp told xx mi fs) (hm : mi ≤ 3000) (hs : spC (minZ cn xx sf wf sg) = sv) : MTi cn sf wf sg sp told (minZ cn xx sf wf sg) (mi + 1) (if 0 ≤ fs then fs else if sv < sp then fs else nI mi) := by
  rcases h with ⟨a, a1, rfl, a3⟩ | ⟨rfl, N, n1, n2⟩
  · rw [if_pos (nI_pos' (by omega))]
    exact Or.inl ⟨a, by omega, rfl, a3⟩
  · rw [if_neg (by decide)]
    obtain ⟨N', rfl⟩ : ∃ N', N = N' + 1 := ⟨N - 1, by omega⟩
    by_cases g : sv < sp
    · rw [if_pos g]
      refine Or.inr ⟨rfl, N', by omega, ?_⟩
      rw [n2]
      exact congrArg Prod.fst (if_pos (by rw [hs]; exact g))
    · rw [if_neg g]
      refine Or.inl ⟨mi, by omega, rfl, ?_⟩
      rw [n2]
      exact congrArg Prod.fst (if_neg (by rw [hs]; exact g))
theorem mt_end {cn mn : Nat} {xx sf wf sg : RI} {sp told fs : Int32} (h : MTi cn sf wf sg sp told xx (mn + 1) fs) (hm : mn < 3000) : (∃ a, a < 2 ^ 31 ∧ fs = nI a ∧ told = nI a) ∨ (fs = -1 ∧ told = -1000) ∨ (fs = -1 ∧ ∃ a, mn < a ∧ a < 2 ^ 31 ∧ told = nI a) := by
  rcases h with ⟨a, a1, a2, a3⟩ | ⟨rfl, N, n1, n2⟩
  · exact Or.inl ⟨a, by omega, a2, a3⟩
  · right
    rcases mtL_rng (cn := cn) (sf := sf) (wf := wf) (sg := sg) (sp := sp) N (mn + 1) (minZ cn xx sf wf sg) with q | ⟨a, q1, q2, q3⟩
    · exact Or.inl ⟨rfl, n2.trans q⟩
    · exact Or.inr ⟨rfl, a, by omega, by omega, n2.trans q3⟩
section RTP
variable {tm cn : Nat} {q : CS} {x sf wf sg t f k : RI} {S R : Nat → Nat}
theorem l_mt (h : RQx tm cn q t f k S R) {wn : Nat} (hw : wn ≤ 360) {nf : Nat} (hnf : nf = 3000) : (kMinutesTo q cn (nI wn)).1 = (mtL cn (cT q 1) (cT q 2) (cT q 3) (nI wn) (nf + 1) 0 (cT q 0)).1 ∧ cT (kMinutesTo q cn (nI wn)).2 = cT q ∧ cL (kMinutesTo q cn (nI wn)).2 = cL q := by
  have e : 3001 = nf + 1 := by omega
  have c : ¬ isw (nI wn) 0 360 = 0 := isw_no (a := 0) (b := 360) (by omega) hw (by decide)
  unfold kMinutesTo
  rw [e, if_neg c]
  exact ⟨rfl, rfl, rfl⟩
theorem l_sp (q : CS) (cn : Nat) {mn : Nat} (hm : mn ≤ 2000) : (kSpreadIn q cn (nI mn)).1 = spC (pmsC cn (cT q 1) (cT q 2) (cT q 3) mn (cT q 0) 0).1 ∧ cT (kSpreadIn q cn (nI mn)).2 = cT q ∧ cL (kSpreadIn q cn (nI mn)).2 = cL q := by
  have c : ¬ isw (nI mn) 0 2000 = 0 := isw_no (a := 0) (b := 2000) (by omega) hm (by decide)
  unfold kSpreadIn
  rw [if_neg c, nI_clamp (by omega)]
  exact ⟨rfl, rfl, rfl⟩
theorem up_comm {z : RI} {a b : Nat} {u v : Int32} (h : ¬ a = b) : upd (upd z a u) b v = upd (upd z b v) a u := by
  funext i
  by_cases g : i = b
  · rw [g, up_s, up_n (fun e => h e.symm), up_s]
  · rw [up_n g]
    by_cases g2 : i = a
    · rw [g2, up_s, up_s]
    · rw [up_n g2, up_n g2, up_n g]
theorem l_oilT (h : RTx tm cn x sf wf sg t f k S R) {i : Nat} (hi : i < 4) {v : Int32} (hv : v = f (7 * i + 3) - (if f (7 * i + 3) ≤ 0 then 0 else 1)) :
    RTx tm cn (oilC (8 + 7 * i) x) sf wf sg t (upd (upd f (7 * i + 2) 0) (7 * i + 3) v) k S R := by
  obtain ⟨h0, ⟨w, hw, ew⟩, h5⟩ := h.p1 hi
  have ef : f (7 * i + 3) = nI w := by rw [← ew]; exact (zc_f (i := 7 * i + 3) (by omega)).symm
  have ex : x (8 + 7 * i + 3) = nI w := (h.xf (i := 7 * i + 3) (by omega)).trans ef
  obtain ⟨a1, w2, hw2, a2⟩ := za_wear w hw
  have ev : jmax (x (8 + 7 * i + 3) - 1) 0 = v := by
    rw [ex, hv, ef, a1]
    by_cases g : nI w ≤ 0
    · rw [if_pos g, if_pos g, Int32.sub_zero]
      have : w = 0 := by
        rcases Nat.eq_zero_or_pos w with z | z
        · exact z
        · exact absurd g (nI_nle z (by omega))
      rw [this]; rfl
    · rw [if_neg g, if_neg g]
  rw [up_comm (show ¬ 7 * i + 2 = 7 * i + 3 by omega)]
  have ez : zc t (upd (upd f (7 * i + 3) v) (7 * i + 2) 0) k = upd (upd (zc t f k) (8 + 7 * i + 3) v) (8 + 7 * i + 2) 0 := by
    rw [zc_uf (by omega), zc_uf (by omega)]; rfl
  refine RTx.put (x := x) (f := f) h (o_of hi) ?_ ?_ (fun u hu => ?_)
  · rw [ez]
    show eqT (upd (upd x (8 + 7 * i + 3) (jmax (x (8 + 7 * i + 3) - 1) 0)) (8 + 7 * i + 2) 0) _
    rw [ev]; exact (h.1.up _ rfl).up _ rfl
  · rw [ez]
    refine ⟨?_, ⟨w2, hw2, ?_⟩, ?_⟩
    · rw [up_n (by omega), up_n (by omega)]; exact h0
    · rw [up_n (by omega), up_s, ← ev, ex]; exact a2
    · rw [up_n (by omega), up_n (by omega)]; exact h5
  · rw [ez, up_n (by omega), up_n (by omega)]
theorem l_df (h : RTx tm cn x sf wf sg t f k S R) (ht : tm < 2 ^ 30) : dftC x = ((distC (f 0) (jrem (t 0) 720) + distC (f 7) (jrem (t 0) 720)) + distC (f 14) (jrem (t 0) 720)) + distC (f 21) (jrem (t 0) 720) ∧ ∃ s, s ≤ 1440 ∧ dftC x = nI s := by
  have e : dftC x = ((distC (f 0) (jrem (t 0) 720) + distC (f 7) (jrem (t 0) 720)) + distC (f 14) (jrem (t 0) 720)) + distC (f 21) (jrem (t 0) 720) := by
    have e8 : x 8 = f 0 := h.xf (i := 0) (by omega)
    have e15 : x 15 = f 7 := h.xf (i := 7) (by omega)
    have e22 : x 22 = f 14 := h.xf (i := 14) (by omega)
    have e29 : x 29 = f 21 := h.xf (i := 21) (by omega)
    unfold dftC
    rw [e8, e15, e22, e29, h.xt (i := 0) (by omega), Int32.zero_add]
  refine ⟨e, ?_⟩
  obtain ⟨a, ha, ea⟩ := h.fd 0 (by decide)
  obtain ⟨b, hb, eb⟩ := h.fd 1 (by decide)
  obtain ⟨c, hc, ec⟩ := h.fd 2 (by decide)
  obtain ⟨d, hd, ed⟩ := h.fd 3 (by decide)
  obtain ⟨m, hm, em⟩ := h.dt ht
  have d1 := dN_le ha hm
  have d2 := dN_le hb hm
  have d3 := dN_le hc hm
  have d4 := dN_le hd hm
  refine ⟨dN a m + dN b m + dN c m + dN d m, by omega, ?_⟩
  rw [e, show f 0 = nI a from ea, show f 7 = nI b from eb, show f 14 = nI c from ec, show f 21 = nI d from ed, em, za_dC ha hm, za_dC hb hm, za_dC hc hm, za_dC hd hm, nI_add, nI_add, nI_add]
end RTP
/-- how far the law's choice of a face to oil stands -/
def BOi (q : CS) (cn mn i : Nat) (b u : Int32) : Prop := (i = 0 ∧ b = 0 ∧ u = 0) ∨ (1 ≤ i ∧ ∃ n, i + n = 4 ∧ boL q cn mn n i b u = boL q cn mn 4 0 0 1441)
theorem bo_step {q : CS} {cn mn i : Nat} {b u df : Int32} (h : BOi q cn mn i b u) (hi : i < 4) (hd : df = dftC (eaZn q cn i mn)) (hs : ∃ s, s ≤ 1440 ∧ df = nI s) : BOi q cn mn (i + 1) (if nI i ≤ 0 then b else if u ≤ df then b else nI i) (if nI i = 0 then df else if u ≤ df then u else df) := by
  rcases h with ⟨rfl, rfl, rfl⟩ | ⟨h1, n, hn, e⟩
  · rw [if_pos (show nI 0 ≤ 0 from by decide), if_pos (show nI 0 = 0 from by decide)]
    refine Or.inr ⟨by omega, 3, by omega, ?_⟩
    have g : ¬ (1441 : Int32) ≤ dftC (eaZn q cn 0 mn) := by
      obtain ⟨s, hs1, hs2⟩ := hs
      rw [← hd, hs2]
      exact fun w => absurd ((za_le (x := 1441) (a := 1441) rfl rfl (by decide) (by omega)).mp w) (by omega)
    have e : boL q cn mn (3 + 1) 0 0 1441 = boL q cn mn 3 (0 + 1) (nI 0) (dftC (eaZn q cn 0 mn)) := if_neg g
    rw [hd, show (4 : Nat) = 3 + 1 from rfl, e, nI_0]
  · rw [if_neg (nI_nle (by omega) (by omega)), if_neg (nI_ne0 (by omega) (by omega))]
    obtain ⟨n', rfl⟩ : ∃ n', n = n' + 1 := ⟨n - 1, by omega⟩
    refine Or.inr ⟨by omega, n', by omega, ?_⟩
    rw [← e, hd]
    by_cases g : u ≤ dftC (eaZn q cn i mn)
    · rw [if_pos g, if_pos g]; exact (if_pos g).symm
    · rw [if_neg g, if_neg g]; exact (if_neg g).symm
theorem bo_end {q : CS} {cn mn : Nat} {b u : Int32} (h : BOi q cn mn 4 b u) : (kBestOiln q cn mn).1 = b := by
  rcases h with ⟨h, -⟩ | ⟨-, n, hn, e⟩
  · omega
  · have : n = 0 := by omega
    subst this
    exact e.symm
theorem bo_q (q : CS) (cn mn : Nat) : cT (kBestOiln q cn mn).2 = cT q ∧ cL (kBestOiln q cn mn).2 = cL q := ⟨rfl, rfl⟩

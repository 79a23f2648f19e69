/-! PURE PART: what the calls answer, on the law's rows -/
abbrev RQx (tm cn : Nat) (q : CS) (t f k : RI) (S R : Nat → Nat) : Prop := RTx tm cn (cT q 0) (cT q 1) (cT q 2) (cT q 3) t f k S R
/-- the spread -/
theorem jmax_n {a b : Nat} (ha : a < 2 ^ 31) (hb : b < 2 ^ 31) : jmax (nI a) (nI b) = nI (max a b) := by
  show (if nI a < nI b then nI b else nI a) = _
  by_cases g : a < b
  · rw [if_pos (nI_lt g hb), Nat.max_eq_right (by omega)]
  · rw [if_neg (nI_nlt (by omega) ha), Nat.max_eq_left (by omega)]
section RTL
variable {tm cn : Nat} {q : CS} {x sf wf sg t f k : RI} {S R : Nat → Nat}
theorem RTx.t7 (h : RTx tm cn x sf wf sg t f k S R) : t 7 = nI cn := (zc_t (f := f) (k := k) (by decide)).symm.trans h.2.2.2.2.1
theorem RTx.t0 (h : RTx tm cn x sf wf sg t f k S R) : t 0 = nI tm := (zc_t (f := f) (k := k) (by decide)).symm.trans h.2.2.2.1
theorem RTx.cn6 (h : RTx tm cn x sf wf sg t f k S R) : cn ≤ 6 := h.2.2.2.2.2.1
theorem RTx.x7 (h : RTx tm cn x sf wf sg t f k S R) : x 7 = nI cn := (h.1 7 (by omega)).trans h.2.2.2.2.1
theorem RTx.fd (h : RTx tm cn x sf wf sg t f k S R) : FD f := h.2.2.1.fd
theorem RTx.xt (h : RTx tm cn x sf wf sg t f k S R) {i : Nat} (hi : i = 0 ∨ 4 ≤ i ∧ i < 8) : x i = t i := (h.1 i (by omega)).trans (zc_t (by omega))
theorem RTx.xf (h : RTx tm cn x sf wf sg t f k S R) {i : Nat} (hi : i < 28) : x (8 + i) = f i := (h.1 (8 + i) (by omega)).trans (zc_f hi)
theorem RTx.b (h : RTx tm cn x sf wf sg t f k S R) : bok x := by
  obtain ⟨h1, h2, ⟨a, b, c, d⟩, -⟩ := h
  intro k hk
  rw [h1 _ (by omega)]
  rcases (show k = 0 ∨ k = 1 ∨ k = 2 ∨ k = 3 by omega) with rfl | rfl | rfl | rfl
  · exact a.2.2
  · exact b.2.2
  · exact c.2.2
  · exact d.2.2
theorem RTx.f1 (h : RTx tm cn x sf wf sg t f k S R) {i : Nat} (hi : i < 4) : F1 f (7 * i) := fa_of (A := t) (k := k) (h.2.2.1.pick (by omega)) (by omega)
theorem RTx.dt (h : RTx tm cn x sf wf sg t f k S R) (ht : tm < 2 ^ 30) : dok (jrem (t 0) 720) := ⟨tm % 720, Nat.mod_lt _ (by decide), by rw [h.t0]; exact za_r720 (by omega)⟩
theorem isw3 {i : Nat} (hi : i < 4) : ¬ isw (nI i) 0 3 = 0 := by
  rw [show isw (nI i) 0 3 = 1 from isw_in (a := 0) (b := 3) (by omega) (by omega) (by decide)]; decide
theorem l_face (h : RQx tm cn q t f k S R) {i j : Nat} (hi : i < 4) (hj : j < 7) : kFace q (nI i) (nI j) = f (7 * i + j) := by
  unfold kFace
  rw [if_neg (isw3 hi), nI_clamp (by omega)]
  have e : ∀ j, j < 7 → cT q 0 (8 + 7 * i + j) = f (7 * i + j) := fun j hj => by
    rw [show 8 + 7 * i + j = 8 + (7 * i + j) by omega]; exact h.xf (by omega)
  unfold kFaceP
  rcases (show j = 0 ∨ j = 1 ∨ j = 2 ∨ j = 3 ∨ j = 4 ∨ j = 5 ∨ j = 6 by omega) with rfl | rfl | rfl | rfl | rfl | rfl | rfl
  · exact (if_pos rfl).trans (e 0 (by decide))
  · exact ((if_neg (by decide)).trans (if_pos rfl)).trans (e 1 (by decide))
  · exact ((if_neg (by decide)).trans ((if_neg (by decide)).trans (if_pos rfl))).trans (e 2 (by decide))
  · exact ((if_neg (by decide)).trans ((if_neg (by decide)).trans ((if_neg (by decide)).trans (if_pos rfl)))).trans (e 3 (by decide))
  · exact ((if_neg (by decide)).trans ((if_neg (by decide)).trans ((if_neg (by decide)).trans ((if_neg (by decide)).trans (if_pos rfl))))).trans (e 4 (by decide))
  · refine ((if_neg (by decide)).trans ((if_neg (by decide)).trans ((if_neg (by decide)).trans ((if_neg (by decide)).trans ((if_neg (by decide)).trans (if_pos rfl)))))).trans ?_
    rw [e 5 (by decide)]
    rcases (h.f1 hi).2.2 with w | w
    · rw [if_pos w]; exact w.symm
    · rw [if_neg (by rw [w]; decide)]; exact w.symm
  · exact ((if_neg (by decide)).trans ((if_neg (by decide)).trans ((if_neg (by decide)).trans ((if_neg (by decide)).trans ((if_neg (by decide)).trans ((if_neg (by decide)).trans (if_pos rfl))))))).trans (e 6 (by decide))
theorem l_face7 (h : RQx tm cn q t f k S R) {i : Nat} (hi : i < 4) : kFace q (nI i) 7 = distC (f (7 * i)) (jrem (t 0) 720) := by
  unfold kFace
  rw [if_neg (isw3 hi), nI_clamp (by omega)]
  unfold kFaceP
  rw [if_neg (by decide), if_neg (by decide), if_neg (by decide), if_neg (by decide), if_neg (by decide), if_neg (by decide), if_neg (by decide), if_pos rfl, h.xt (i := 0) (by omega), h.xf (i := 7 * i) (by omega)]
/-- majority -/
def smI (f : RI) (v : Int32) : Nat → Nat → Int32 → Int32
  | 0, _, q => q
  | n + 1, o, q => if f o = v then smI f v n (o + 7) (q + 1) else smI f v n (o + 7) (q + 0)
def mjI (f : RI) : Nat → Nat → Int32 → Int32 → Int32
  | 0, _, b, _ => b
  | n + 1, i, b, m => if smI f (f (7 * i)) 4 0 0 ≤ m then mjI f n (i + 1) b m else mjI f n (i + 1) (f (7 * i)) (smI f (f (7 * i)) 4 0 0)
theorem sm_fw (h : RTx tm cn x sf wf sg t f k S R) (v : Int32) : ∀ (n o : Nat) (u : Int32), o + 7 * n = 28 → fwL x v n (8 + o) u = smI f v n o u := by
  intro n
  induction n with
  | zero => exact fun o u _ => rfl
  | succ n ih =>
    intro o u ho
    have e := h.xf (i := o) (by omega)
    by_cases g : f o = v
    · rw [show fwL x v (n + 1) (8 + o) u = fwL x v n (8 + o + 7) (u + 1) from if_pos (by rw [e]; exact g), show smI f v (n + 1) o u = smI f v n (o + 7) (u + 1) from if_pos g, show 8 + o + 7 = 8 + (o + 7) by omega]
      exact ih _ _ (by omega)
    · rw [show fwL x v (n + 1) (8 + o) u = fwL x v n (8 + o + 7) u from if_neg (by rw [e]; exact g), show smI f v (n + 1) o u = smI f v n (o + 7) (u + 0) from if_neg g, Int32.add_zero, show 8 + o + 7 = 8 + (o + 7) by omega]
      exact ih _ _ (by omega)
theorem mj_ma (h : RTx tm cn x sf wf sg t f k S R) : ∀ (n i : Nat) (b m : Int32), i + n = 4 → maL x n (8 + 7 * i) b m = mjI f n i b m := by
  intro n
  induction n with
  | zero => exact fun i b m _ => rfl
  | succ n ih =>
    intro i b m hi
    have e := h.xf (i := 7 * i) (by omega)
    have c : fwL x (f (7 * i)) 4 8 0 = smI f (f (7 * i)) 4 0 0 := sm_fw h (f (7 * i)) 4 0 0 (by omega)
    have e7 : 8 + 7 * i + 7 = 8 + 7 * (i + 1) := by omega
    by_cases g : smI f (f (7 * i)) 4 0 0 ≤ m
    · rw [show maL x (n + 1) (8 + 7 * i) b m = maL x n (8 + 7 * i + 7) b m from if_pos (by rw [e, c]; exact g), show mjI f (n + 1) i b m = mjI f n (i + 1) b m from if_pos g, e7]
      exact ih _ _ _ (by omega)
    · have q1 : maL x (n + 1) (8 + 7 * i) b m = maL x n (8 + 7 * i + 7) (x (8 + 7 * i)) (fwL x (x (8 + 7 * i)) 4 8 0) := if_neg (by rw [e, c]; exact g)
      rw [q1, e, c, show mjI f (n + 1) i b m = mjI f n (i + 1) (f (7 * i)) (smI f (f (7 * i)) 4 0 0) from if_neg g, e7]
      exact ih _ _ _ (by omega)
theorem l_maj (h : RQx tm cn q t f k S R) : maL (cT q 0) 4 8 0 0 = mjI f 4 0 0 0 := mj_ma h 4 0 0 0 rfl
/-- the keeper on watch at a minute -/
theorem l_watch (h : RQx tm cn q t f k S R) {a : Nat} (ha : a < 1440) (h1 : 1 ≤ cn) : ∃ w, w < cn ∧ WK cn k t (nI a) w ∧ kKeeper q cn (nI a) 0 = k (2 * w) ∧ kKeeper q cn (nI a) 1 = k (2 * w + 1) ∧ kKeeper q cn (nI a) 2 = utI k (nI a) w cn 0 1440 := by
  have hK := h.2.2.2.2.2.2
  obtain ⟨w, w1, p1, w2, w3, w4, hl⟩ := watch hK ha h1
  have c1 : ¬ isw (nI a) 0 1439 = 0 := by rw [show isw (nI a) 0 1439 = 1 from isw_in (a := 0) (b := 1439) (by omega) (by omega) (by decide)]; decide
  have key : ∀ b : Int32, ¬ isw b 0 2 = 0 → kKeeper q cn (nI a) b = if b = 0 then cT q 1 (pa cn (cT q 1) (nI a)) else if b = 1 then cT q 2 (pa cn (cT q 1) (nI a)) else mtn cn (cT q 1) (nI a) := by
    intro b hb
    unfold kKeeper
    rw [if_neg c1, if_neg hb, if_neg (by omega)]
  refine ⟨w, w1, WK_of hK h.cn6 h.t7 ha rfl w1 hl, ?_, ?_, ?_⟩
  · rw [key 0 (by decide)]; exact (if_pos rfl).trans (w3.trans zc_k)
  · rw [key 1 (by decide)]; exact ((if_neg (by decide)).trans (if_pos rfl)).trans (w4.trans (zc_k (i := 2 * w + 1)))
  · rw [key 2 (by decide)]; exact ((if_neg (by decide)).trans (if_neg (by decide))).trans (until_eq hK h.cn6 ha h1 w1 p1 w2)
theorem l_kt (h : RQx tm cn q t f k S R) (ht : tm < 2 ^ 30) (h1 : 1 ≤ cn) : ∃ w, w < 6 ∧ WK cn k t (jrem (t 0) 1440) w ∧ tok cn (cT q 0) (cT q 1) (cT q 2) = ktL k t w := by
  obtain ⟨w, w6, a, b, -⟩ := tok_kt (x := cT q 0) h.2.2.2.2.2.2 h.cn6 h1 ht h.t7 h.t0 (h.xt (by omega))
  exact ⟨w, w6, a, b⟩
theorem l_none (q : CS) {a : Nat} (ha : a < 1440) : kKeeper q 0 (nI a) 0 = -1000 ∧ kKeeper q 0 (nI a) 1 = -1000 ∧ kKeeper q 0 (nI a) 2 = -1000 := by
  have c1 : ¬ isw (nI a) 0 1439 = 0 := by rw [show isw (nI a) 0 1439 = 1 from isw_in (a := 0) (b := 1439) (by omega) (by omega) (by decide)]; decide
  have key : ∀ b : Int32, ¬ isw b 0 2 = 0 → kKeeper q 0 (nI a) b = -1000 := by
    intro b hb
    unfold kKeeper
    rw [if_neg c1, if_neg hb, if_pos rfl]
  exact ⟨key 0 (by decide), key 1 (by decide), key 2 (by decide)⟩
/-- the spread -/
theorem sp_step {z : RI} (n m : Nat) (u : Int32) : spI (n + 1) m z u = spI n (m + 1) z (jmax u (distC (z (7 * (m / 4))) (z (7 * (m % 4))))) := by
  show (if distC (z (7 * (m / 4))) (z (7 * (m % 4))) ≤ u then spI n (m + 1) z u else spI n (m + 1) z (distC (z (7 * (m / 4))) (z (7 * (m % 4))))) = spI n (m + 1) z (if u < distC (z (7 * (m / 4))) (z (7 * (m % 4))) then distC (z (7 * (m / 4))) (z (7 * (m % 4))) else u)
  by_cases g : distC (z (7 * (m / 4))) (z (7 * (m % 4))) ≤ u
  · rw [if_pos g, if_neg (Int32.not_lt.mpr g)]
  · rw [if_neg g, if_pos (Int32.not_le.mp g)]
def spD (z : RI) (a b : Nat) : Int32 := distC (z (7 * a)) (z (7 * b))
theorem sp_all (z : RI) : spL z = jmax (jmax (jmax (jmax (jmax (jmax (jmax (jmax (jmax (jmax (jmax (jmax (jmax (jmax (jmax (jmax 0 (spD z 0 0)) (spD z 0 1)) (spD z 0 2)) (spD z 0 3)) (spD z 1 0)) (spD z 1 1)) (spD z 1 2)) (spD z 1 3)) (spD z 2 0)) (spD z 2 1)) (spD z 2 2)) (spD z 2 3)) (spD z 3 0)) (spD z 3 1)) (spD z 3 2)) (spD z 3 3) :=
  (sp_step 15 0 _).trans ((sp_step 14 1 _).trans ((sp_step 13 2 _).trans ((sp_step 12 3 _).trans ((sp_step 11 4 _).trans ((sp_step 10 5 _).trans ((sp_step 9 6 _).trans ((sp_step 8 7 _).trans ((sp_step 7 8 _).trans ((sp_step 6 9 _).trans ((sp_step 5 10 _).trans ((sp_step 4 11 _).trans ((sp_step 3 12 _).trans ((sp_step 2 13 _).trans ((sp_step 1 14 _).trans (sp_step 0 15 _)))))))))))))))
theorem l_spread (h : RTx tm cn x sf wf sg t f k S R) : spC x = spL f := by
  have e8 : x 8 = f (7 * 0) := h.xf (i := 0) (by omega)
  have e15 : x 15 = f (7 * 1) := h.xf (i := 7) (by omega)
  have e22 : x 22 = f (7 * 2) := h.xf (i := 14) (by omega)
  have e29 : x 29 = f (7 * 3) := h.xf (i := 21) (by omega)
  rw [sp_all]
  unfold spC spD
  rw [e8, e15, e22, e29]
theorem za_jmax {a b : Int32} (ha : ∃ n, n ≤ 360 ∧ a = nI n) (hb : ∃ n, n ≤ 360 ∧ b = nI n) : ∃ n, n ≤ 360 ∧ jmax a b = nI n := by
  obtain ⟨n, h1, rfl⟩ := ha
  obtain ⟨m, h2, rfl⟩ := hb
  exact ⟨max n m, by omega, jmax_n (by omega) (by omega)⟩
theorem sp_n {f : RI} (h : FD f) : ∃ n, n ≤ 360 ∧ spL f = nI n := by
  have d : ∀ a b, a < 4 → b < 4 → ∃ n, n ≤ 360 ∧ spD f a b = nI n := by
    intro a b ha hb
    obtain ⟨u, hu, eu⟩ := h a ha
    obtain ⟨v, hv, ev⟩ := h b hb
    exact ⟨dN u v, dN_le hu hv, by unfold spD; rw [eu, ev]; exact za_dC hu hv⟩
  rw [sp_all]
  exact za_jmax (za_jmax (za_jmax (za_jmax (za_jmax (za_jmax (za_jmax (za_jmax (za_jmax (za_jmax (za_jmax (za_jmax (za_jmax (za_jmax (za_jmax (za_jmax ⟨0, by omega, rfl⟩ (d 0 0 (by decide) (by decide))) (d 0 1 (by decide) (by decide))) (d 0 2 (by decide) (by decide))) (d 0 3 (by decide) (by decide))) (d 1 0 (by decide) (by decide))) (d 1 1 (by decide) (by decide))) (d 1 2 (by decide) (by decide))) (d 1 3 (by decide) (by decide))) (d 2 0 (by decide) (by decide))) (d 2 1 (by decide) (by decide))) (d 2 2 (by decide) (by decide))) (d 2 3 (by decide) (by decide))) (d 3 0 (by decide) (by decide))) (d 3 1 (by decide) (by decide))) (d 3 2 (by decide) (by decide))) (d 3 3 (by decide) (by decide))
/-- totals and settings -/
theorem l_total (h : RQx tm cn q t f k S R) : kTotal q 0 = t 0 ∧ kTotal q 1 = jrem (t 0) 1440 ∧ kTotal q 2 = t 4 ∧ kTotal q 3 = t 5 ∧ kTotal q 4 = sumF f 4 ∧ kTotal q 5 = sumF f 6 ∧ kTotal q 6 = t 6 ∧ kTotal q 7 = t 7 ∧ kTotal q 8 = spL f := by
  have e12 : cT q 0 12 = f 4 := h.xf (i := 4) (by omega)
  have e19 : cT q 0 19 = f (7 + 4) := h.xf (i := 11) (by omega)
  have e26 : cT q 0 26 = f (14 + 4) := h.xf (i := 18) (by omega)
  have e33 : cT q 0 33 = f (21 + 4) := h.xf (i := 25) (by omega)
  have e14 : cT q 0 14 = f 6 := h.xf (i := 6) (by omega)
  have e21 : cT q 0 21 = f (7 + 6) := h.xf (i := 13) (by omega)
  have e28 : cT q 0 28 = f (14 + 6) := h.xf (i := 20) (by omega)
  have e35 : cT q 0 35 = f (21 + 6) := h.xf (i := 27) (by omega)
  unfold kTotal sumF
  refine ⟨?_, ?_, ?_, ?_, ?_, ?_, ?_, ?_, ?_⟩
  · rw [if_pos rfl]; exact h.xt (by omega)
  · rw [if_neg (by decide), if_pos rfl, h.xt (i := 0) (by omega)]
  · rw [if_neg (by decide), if_neg (by decide), if_pos rfl]; exact h.xt (by omega)
  · rw [if_neg (by decide), if_neg (by decide), if_neg (by decide), if_pos rfl]; exact h.xt (by omega)
  · rw [if_neg (by decide), if_neg (by decide), if_neg (by decide), if_neg (by decide), if_pos rfl, Int32.zero_add, e12, e19, e26, e33]
  · rw [if_neg (by decide), if_neg (by decide), if_neg (by decide), if_neg (by decide), if_neg (by decide), if_pos rfl, Int32.zero_add, e14, e21, e28, e35]
  · rw [if_neg (by decide), if_neg (by decide), if_neg (by decide), if_neg (by decide), if_neg (by decide), if_neg (by decide), if_pos rfl]; exact h.xt (by omega)
  · rw [if_neg (by decide), if_neg (by decide), if_neg (by decide), if_neg (by decide), if_neg (by decide), if_neg (by decide), if_neg (by decide), if_pos rfl]; exact h.xt (by omega)
  · rw [if_neg (by decide), if_neg (by decide), if_neg (by decide), if_neg (by decide), if_neg (by decide), if_neg (by decide), if_neg (by decide), if_neg (by decide), if_pos rfl]; exact l_spread h
theorem l_setting (h : RQx tm cn q t f k S R) : kSetting q 0 = t 1 ∧ kSetting q 1 = t 2 ∧ kSetting q 2 = t 3 := by
  unfold kSetting
  exact ⟨(if_neg (by decide)).trans (h.2.1 0 (by decide)), (if_neg (by decide)).trans (h.2.1 1 (by decide)), (if_neg (by decide)).trans (h.2.1 2 (by decide))⟩
/-- bells -/
theorem l_bells (h : RTx tm cn x sf wf sg t f k S R) : ∃ (D : Nat → Nat) (B : Nat → Bool), DB x D B ∧ ∀ i, i < 4 → D i < 720 ∧ f (7 * i) = nI (D i) ∧ f (7 * i + 5) = (if B i = true then 1 else 0) := by
  have hf := h.fd
  obtain ⟨d0, k0, g0⟩ := hf 0 (by decide)
  obtain ⟨d1, k1, g1⟩ := hf 1 (by decide)
  obtain ⟨d2, k2, g2⟩ := hf 2 (by decide)
  obtain ⟨d3, k3, g3⟩ := hf 3 (by decide)
  obtain ⟨D, hD⟩ : ∃ D : Nat → Nat, D 0 = d0 ∧ D 1 = d1 ∧ D 2 = d2 ∧ D 3 = d3 := ⟨fun k => [d0, d1, d2, d3].getD k 0, rfl, rfl, rfl, rfl⟩
  have bl : ∀ v : Int32, (v = 0 ∨ v = 1) → v = (if decide (v = 1) = true then 1 else 0) := by
    intro v hv
    rcases hv with rfl | rfl
    · rfl
    · rfl
  have key : ∀ i, i < 4 → D i < 720 ∧ f (7 * i) = nI (D i) ∧ f (7 * i + 5) = (if decide (f (7 * i + 5) = 1) = true then 1 else 0) := by
    intro i hi
    have hb := bl _ (h.f1 hi).2.2
    rcases (show i = 0 ∨ i = 1 ∨ i = 2 ∨ i = 3 by omega) with rfl | rfl | rfl | rfl
    · rw [hD.1]; exact ⟨k0, g0, hb⟩
    · rw [hD.2.1]; exact ⟨k1, g1, hb⟩
    · rw [hD.2.2.1]; exact ⟨k2, g2, hb⟩
    · rw [hD.2.2.2]; exact ⟨k3, g3, hb⟩
  refine ⟨D, fun i => decide (f (7 * i + 5) = 1), fun i hi => ?_, key⟩
  have e0 : x (8 + 7 * i) = f (7 * i) := h.xf (by omega)
  have e5 : x (8 + 7 * i + 5) = f (7 * i + 5) := h.xf (i := 7 * i + 5) (by omega)
  rw [e0, e5]
  exact key i hi
end RTL

/-! PURE PART: keepers, resets, minutes on the law's rows -/
/-! PURE PART: keepers on watch -/
/-- the keepers of both sides: S the class's starts in their order, R the reference's -/
def KR (cn : Nat) (sf wf z : RI) (S R : Nat → Nat) : Prop :=
  (∀ k, k < cn → S k < 1440 ∧ sf k = nI (S k)) ∧ (∀ j, j < cn → R j < 1440 ∧ z (36 + 2 * j) = nI (R j)) ∧ (∀ j, j < cn → ∃ w, w ≤ 60 ∧ z (36 + 2 * j + 1) = nI w - 30) ∧
  (∀ i j, i < cn → j < cn → R i = R j → i = j) ∧ (∀ i j, i < j → j < cn → S i < S j) ∧ (∀ k, k < cn → ∃ j, j < cn ∧ S k = R j ∧ wf k = z (36 + 2 * j + 1)) ∧ (∀ j, j < cn → ∃ k, k < cn ∧ S k = R j)
theorem KR.mv {cn : Nat} {sf wf z z' : RI} {S R : Nat → Nat} (h : KR cn sf wf z S R) (hz : ∀ i, 36 ≤ i → z' i = z i) : KR cn sf wf z' S R := by
  obtain ⟨h1, h2, h3, h4, h5, h6, h7⟩ := h
  refine ⟨h1, fun j hj => ?_, fun j hj => ?_, h4, h5, fun k hk => ?_, h7⟩
  · rw [hz _ (by omega)]; exact h2 j hj
  · rw [hz _ (by omega)]; exact h3 j hj
  · obtain ⟨j, a, b, c⟩ := h6 k hk
    exact ⟨j, a, b, by rw [hz _ (by omega)]; exact c⟩
theorem paN_spec {sf : RI} {S : Nat → Nat} {cn m : Nat} (hS : ∀ k, k < cn → S k < 1440 ∧ sf k = nI (S k)) (hm : m < 1440) : ∀ (n k f : Nat), k + n = cn →
    (paN sf (nI m) n k f = f ∧ ∀ j, k ≤ j → j < cn → m < S j) ∨ (k ≤ paN sf (nI m) n k f ∧ paN sf (nI m) n k f < cn ∧ S (paN sf (nI m) n k f) ≤ m ∧ ∀ j, paN sf (nI m) n k f < j → j < cn → m < S j) := by
  intro n
  induction n with
  | zero => exact fun k f hk => Or.inl ⟨rfl, fun j h1 h2 => absurd h2 (by omega)⟩
  | succ n ih =>
    intro k f hk
    obtain ⟨b, c⟩ := hS k (by omega)
    by_cases h : m < S k
    · have q : paN sf (nI m) (n + 1) k f = paN sf (nI m) n (k + 1) f := if_pos (by rw [c]; exact nI_lt h (by omega))
      rw [q]
      rcases ih (k + 1) f (by omega) with ⟨h1, h2⟩ | ⟨h1, h2, h3, h4⟩
      · refine Or.inl ⟨h1, fun j g1 g2 => ?_⟩
        by_cases g : j = k
        · subst g; exact h
        · exact h2 j (by omega) g2
      · exact Or.inr ⟨by omega, h2, h3, h4⟩
    · have q : paN sf (nI m) (n + 1) k f = paN sf (nI m) n (k + 1) k := if_neg (by rw [c]; exact nI_nlt (by omega) (by omega))
      rw [q]
      rcases ih (k + 1) k (by omega) with ⟨h1, h2⟩ | ⟨h1, h2, h3, h4⟩
      · refine Or.inr ⟨by omega, by omega, by rw [h1]; omega, fun j g1 g2 => h2 j (by omega) g2⟩
      · exact Or.inr ⟨by omega, h2, h3, h4⟩
theorem pa_least {sf : RI} {S : Nat → Nat} {cn m : Nat} (hS : ∀ k, k < cn → S k < 1440 ∧ sf k = nI (S k)) (hs : ∀ i j, i < j → j < cn → S i < S j) (hm : m < 1440) (h1 : 1 ≤ cn) :
    pa cn sf (nI m) < cn ∧ ∀ j, j < cn → j ≠ pa cn sf (nI m) → sN m (S (pa cn sf (nI m))) < sN m (S j) := by
  unfold pa
  rcases paN_spec hS hm cn 0 (cn - 1) (Nat.zero_add cn) with ⟨a, b⟩ | ⟨a, b, c, d⟩
  · rw [a]
    refine ⟨by omega, fun j hj hn => ?_⟩
    have p1 := b j (Nat.zero_le _) hj
    have p2 := b (cn - 1) (Nat.zero_le _) (by omega)
    have p3 := hs j (cn - 1) (by omega) (by omega)
    have p4 := (hS j hj).1
    have p5 := (hS (cn - 1) (by omega)).1
    unfold sN; omega
  · generalize paN sf (nI m) cn 0 (cn - 1) = r at a b c d
    refine ⟨b, fun j hj hn => ?_⟩
    have p4 := (hS j hj).1
    have p5 := (hS r b).1
    rcases Nat.lt_or_ge j r with g | g
    · have p3 := hs j r g b
      unfold sN; omega
    · have p1 := d j (by omega) hj
      unfold sN; omega
/-- the keeper on watch, by the law's numbers -/
theorem watch {cn m : Nat} {sf wf z : RI} {S R : Nat → Nat} (h : KR cn sf wf z S R) (hm : m < 1440) (h1 : 1 ≤ cn) :
    ∃ w, w < cn ∧ pa cn sf (nI m) < cn ∧ S (pa cn sf (nI m)) = R w ∧ sf (pa cn sf (nI m)) = z (36 + 2 * w) ∧ wf (pa cn sf (nI m)) = z (36 + 2 * w + 1) ∧ ∀ j, j < cn → j ≠ w → sN m (R w) < sN m (R j) := by
  obtain ⟨hS, hR, hw, hd, hs, hcr, hrc⟩ := h
  obtain ⟨p1, p2⟩ := pa_least hS hs hm h1
  generalize pa cn sf (nI m) = p at p1 p2 ⊢
  obtain ⟨w, a1, a2, a3⟩ := hcr p p1
  refine ⟨w, a1, p1, a2, by rw [(hS _ p1).2, (hR _ a1).2, a2], a3, fun j hj hn => ?_⟩
  obtain ⟨k0, b1, b2⟩ := hrc j hj
  have hk : k0 ≠ p := fun q => hn (hd j w hj a1 (by rw [← b2, q, a2]))
  have := p2 k0 b1 hk
  rw [b2, a2] at this
  exact this
theorem WK_of {cn m : Nat} {sf wf t f k : RI} {S R : Nat → Nat} {v : Int32} {w : Nat} (h : KR cn sf wf (zc t f k) S R) (hc : cn ≤ 6) (h7 : t 7 = nI cn) (hm : m < 1440) (hv : v = nI m) (hw : w < cn) (hl : ∀ j, j < cn → j ≠ w → sN m (R w) < sN m (R j)) : WK cn k t v w :=
  ⟨h7, hc, hw, m, R, hm, hv, fun j hj => ⟨(h.2.1 j hj).1, by rw [← (h.2.1 j hj).2]; exact zc_k.symm⟩, hl⟩
/-- the time of the keeper on watch -/
theorem tok_kt {cn tm : Nat} {sf wf t f k x : RI} {S R : Nat → Nat} (h : KR cn sf wf (zc t f k) S R) (hc : cn ≤ 6) (h1 : 1 ≤ cn) (ht : tm < 2 ^ 30) (h7 : t 7 = nI cn) (hz : t 0 = nI tm) (hx : x 0 = t 0) :
    ∃ w, w < 6 ∧ WK cn k t (jrem (t 0) 1440) w ∧ tok cn x sf wf = ktL k t w ∧ dok (ktL k t w) := by
  have hm : tm % 1440 < 1440 := Nat.mod_lt _ (by decide)
  obtain ⟨w, w1, p1, -, -, q, hl⟩ := watch h hm h1
  obtain ⟨u, hu, eu⟩ := h.2.2.1 _ w1
  have q1 : jrem (t 0) 1440 = nI (tm % 1440) := by rw [hz]; exact za_r1440 (by omega)
  have ek : k (2 * w + 1) = nI u - 30 := by rw [← eu]; exact (zc_k (i := 2 * w + 1)).symm
  have c1 : tok cn x sf wf = nI ((tm % 720 + u + 690) % 720) := by
    unfold tok
    rw [if_neg (by omega), hx, q1, q, eu, hz]
    exact za_tok ht hu
  have c2 : ktL k t w = nI ((tm % 720 + u + 690) % 720) := by
    unfold ktL
    rw [ek, hz]
    have q2 : (nI tm + (nI u - 30)) + 720 = nI (tm + u + 690) := by
      have q3 : (nI u - 30) + 720 = nI (u + 690) := za_wrap (a := u) (b := 30) (d := 720) (by decide)
      rw [Int32.add_assoc, q3, nI_add]
      exact congrArg nI (by omega)
    rw [q2, za_r720 (by omega)]
    exact congrArg nI (by omega)
  exact ⟨w, by omega, WK_of h hc h7 hm q1 w1 hl, c1.trans c2.symm, _, Nat.mod_lt _ (by decide), c2⟩
theorem tok_none {x sf wf : RI} : tok 0 x sf wf = -1000 := if_pos rfl
theorem tok_x {cn : Nat} {x z sf wf : RI} (h : x 0 = z 0) : tok cn x sf wf = tok cn z sf wf := by unfold tok; rw [h]
/-! PURE PART: a minute, many minutes -/
theorem FZ.one {z z' : RI} {o : Nat} (h : FZ z) (ho : o = 8 ∨ o = 15 ∨ o = 22 ∨ o = 29) (h1 : F1 z' o) (h2 : ∀ i, (i < o ∨ o + 7 ≤ i) → z' i = z i) : FZ z' := by
  obtain ⟨a, b, c, d⟩ := h
  rcases ho with rfl | rfl | rfl | rfl
  · exact ⟨h1, b.mv (h2 _ (by omega)) (h2 _ (by omega)) (h2 _ (by omega)), c.mv (h2 _ (by omega)) (h2 _ (by omega)) (h2 _ (by omega)), d.mv (h2 _ (by omega)) (h2 _ (by omega)) (h2 _ (by omega))⟩
  · exact ⟨a.mv (h2 _ (by omega)) (h2 _ (by omega)) (h2 _ (by omega)), h1, c.mv (h2 _ (by omega)) (h2 _ (by omega)) (h2 _ (by omega)), d.mv (h2 _ (by omega)) (h2 _ (by omega)) (h2 _ (by omega))⟩
  · exact ⟨a.mv (h2 _ (by omega)) (h2 _ (by omega)) (h2 _ (by omega)), b.mv (h2 _ (by omega)) (h2 _ (by omega)) (h2 _ (by omega)), h1, d.mv (h2 _ (by omega)) (h2 _ (by omega)) (h2 _ (by omega))⟩
  · exact ⟨a.mv (h2 _ (by omega)) (h2 _ (by omega)) (h2 _ (by omega)), b.mv (h2 _ (by omega)) (h2 _ (by omega)) (h2 _ (by omega)), c.mv (h2 _ (by omega)) (h2 _ (by omega)) (h2 _ (by omega)), h1⟩
theorem FZ.pick {z : RI} {o : Nat} (h : FZ z) (ho : o = 8 ∨ o = 15 ∨ o = 22 ∨ o = 29) : F1 z o := by
  rcases ho with rfl | rfl | rfl | rfl
  · exact h.1
  · exact h.2.1
  · exact h.2.2.1
  · exact h.2.2.2
theorem FZ.due {z : RI} {o d : Nat} (h : FZ z) (ho : o = 8 ∨ o = 15 ∨ o = 22 ∨ o = 29) (hd : d < 720) : FZ (upd (upd z o (nI d)) (o + 2) 0) := by
  obtain ⟨-, hw, hb⟩ := h.pick ho
  refine h.one ho ⟨⟨d, hd, ?_⟩, ?_, ?_⟩ (fun i hi => ?_)
  · rw [up_n (by omega), up_s]
  · rw [up_n (by omega), up_n (by omega)]; exact hw
  · rw [up_n (by omega), up_n (by omega)]; exact hb
  · rw [up_n (by omega), up_n (by omega)]
theorem rs_F {d : Nat} (hd : d < 720) {tol : Int32} : ∀ (n o : Nat) (z : RI) (q : Int32), o + 7 * n = 36 → 8 ≤ o → FZ z → FZ (rsL (nI d) tol n o z q).1 := by
  intro n
  induction n with
  | zero => exact fun o z q _ _ h => h
  | succ n ih =>
    intro o z q ho h8 hF
    have hoo : o = 8 ∨ o = 15 ∨ o = 22 ∨ o = 29 := by omega
    by_cases g : distC (z o) (nI d) ≤ tol
    · rw [show rsL (nI d) tol (n + 1) o z q = rsL (nI d) tol n (o + 7) z q from if_pos g]
      exact ih (o + 7) z q (by omega) (by omega) hF
    · rw [show rsL (nI d) tol (n + 1) o z q = rsL (nI d) tol n (o + 7) (upd (upd z o (nI d)) (o + 2) 0) (q + 1) from if_neg g]
      exact ih (o + 7) _ (q + 1) (by omega) (by omega) (hF.due hoo hd)
theorem rsL_n {due tol : Int32} {i : Nat} (hi : i < 8 ∨ 36 ≤ i) : ∀ (n o : Nat) (z : RI) (q : Int32), o + 7 * n = 36 → 8 ≤ o → (rsL due tol n o z q).1 i = z i := by
  intro n
  induction n with
  | zero => exact fun o z q _ _ => rfl
  | succ n ih =>
    intro o z q ho h8
    by_cases g : distC (z o) due ≤ tol
    · rw [show rsL due tol (n + 1) o z q = rsL due tol n (o + 7) z q from if_pos g]
      exact ih _ _ _ (by omega) (by omega)
    · rw [show rsL due tol (n + 1) o z q = rsL due tol n (o + 7) (upd (upd z o due) (o + 2) 0) (q + 1) from if_neg g, ih _ _ _ (by omega) (by omega), up_n (by omega), up_n (by omega)]
theorem rsL_eq {due tol : Int32} : ∀ (n o : Nat) (x z : RI) (q : Int32), o + 7 * n = 36 → 8 ≤ o → eqT x z → eqT (rsL due tol n o x q).1 (rsL due tol n o z q).1 ∧ (rsL due tol n o x q).2 = (rsL due tol n o z q).2 := by
  intro n
  induction n with
  | zero => exact fun o x z q _ _ h => ⟨h, rfl⟩
  | succ n ih =>
    intro o x z q ho h8 h
    have c := h o (by omega)
    by_cases g : distC (z o) due ≤ tol
    · rw [show rsL due tol (n + 1) o z q = rsL due tol n (o + 7) z q from if_pos g, show rsL due tol (n + 1) o x q = rsL due tol n (o + 7) x q from if_pos (by rw [c]; exact g)]
      exact ih _ _ _ _ (by omega) (by omega) h
    · rw [show rsL due tol (n + 1) o z q = rsL due tol n (o + 7) (upd (upd z o due) (o + 2) 0) (q + 1) from if_neg g, show rsL due tol (n + 1) o x q = rsL due tol n (o + 7) (upd (upd x o due) (o + 2) 0) (q + 1) from if_neg (by rw [c]; exact g)]
      exact ih _ _ _ _ (by omega) (by omega) ((h.up _ rfl).up _ rfl)
/-- what stays of the reference's row -/
def frM (z z' : RI) : Prop := ∀ i, (i = 1 ∨ i = 2 ∨ i = 3 ∨ i = 7 ∨ 36 ≤ i) → z' i = z i
/-- the law's resets -/
theorem rs_zc {due tol : Int32} {t k : RI} : ∀ (n i : Nat) (f : RI) (q : Int32), i + n = 4 → zc t (rsI due tol n i f q).1 k = (rsL due tol n (8 + 7 * i) (zc t f k) q).1 ∧ (rsI due tol n i f q).2 = (rsL due tol n (8 + 7 * i) (zc t f k) q).2 := by
  intro n
  induction n with
  | zero => exact fun i f q _ => ⟨rfl, rfl⟩
  | succ n ih =>
    intro i f q hi
    have e : zc t f k (8 + 7 * i) = f (7 * i) := zc_f (by omega)
    have e7 : 8 + 7 * i + 7 = 8 + 7 * (i + 1) := by omega
    by_cases g : distC (f (7 * i)) due ≤ tol
    · rw [show rsI due tol (n + 1) i f q = rsI due tol n (i + 1) f q from if_pos g, show rsL due tol (n + 1) (8 + 7 * i) (zc t f k) q = rsL due tol n (8 + 7 * i + 7) (zc t f k) q from if_pos (by rw [e]; exact g), e7]
      exact ih (i + 1) f q (by omega)
    · rw [show rsI due tol (n + 1) i f q = rsI due tol n (i + 1) (upd (upd f (7 * i) due) (7 * i + 2) 0) (q + 1) from if_neg g, show rsL due tol (n + 1) (8 + 7 * i) (zc t f k) q = rsL due tol n (8 + 7 * i + 7) (upd (upd (zc t f k) (8 + 7 * i) due) (8 + 7 * i + 2) 0) (q + 1) from if_neg (by rw [e]; exact g), e7]
      have r := ih (i + 1) (upd (upd f (7 * i) due) (7 * i + 2) 0) (q + 1) (by omega)
      rw [zc_uf (by omega), zc_uf (by omega), show 8 + (7 * i + 2) = 8 + 7 * i + 2 by omega] at r
      exact r
/-- the law's row and the keepers: what each minute keeps -/
def TOK (t cn : Nat) (sf wf z : RI) (S R : Nat → Nat) : Prop := FZ z ∧ z 0 = nI t ∧ z 7 = nI cn ∧ cn ≤ 6 ∧ KR cn sf wf z S R
theorem FZ.fd {t f k : RI} (h : FZ (zc t f k)) : FD f := by
  intro i hi
  have e : zc t f k (8 + 7 * i) = f (7 * i) := zc_f (by omega)
  rw [← e]
  rcases (show i = 0 ∨ i = 1 ∨ i = 2 ∨ i = 3 by omega) with rfl | rfl | rfl | rfl
  · exact h.1.1
  · exact h.2.1.1
  · exact h.2.2.1.1
  · exact h.2.2.2.1
/-- what a reset of the law's needs, and what it does -/
theorem rz_zc {tm cn : Nat} {sf wf t f k : RI} {S R : Nat → Nat} (h : TOK tm cn sf wf (zc t f k) S R) (ht : tm < 2 ^ 30) (h1 : 1 ≤ cn) : ∃ w, w < 6 ∧ RK cn f k t w ∧
    zc (lrT f k t w) (lrF f k t w) k = rsZ cn (zc t f k) sf wf (sgR (zc t f k)) ∧ lrQ f k t w = rsR cn (zc t f k) sf wf (sgR (zc t f k)) ∧ FZ (rsZ cn (zc t f k) sf wf (sgR (zc t f k))) ∧ frM (zc t f k) (rsZ cn (zc t f k) sf wf (sgR (zc t f k))) ∧ rsZ cn (zc t f k) sf wf (sgR (zc t f k)) 0 = zc t f k 0 := by
  obtain ⟨hF, h0, h7, hc, hK⟩ := h
  have h7' : t 7 = nI cn := by rw [← h7]; exact (zc_t (by decide)).symm
  have h0' : t 0 = nI tm := by rw [← h0]; exact (zc_t (by decide)).symm
  obtain ⟨w, w6, hW, et, hdk⟩ := tok_kt (x := zc t f k) hK hc h1 ht h7' h0' (zc_t (by decide))
  refine ⟨w, w6, ⟨hW, hF.fd, hdk⟩, ?_⟩
  obtain ⟨d, hd, ed⟩ := hdk
  have hn : ¬ tok cn (zc t f k) sf wf = -1000 := by rw [et, ed]; exact ne1000 (by omega)
  have s1 : sgR (zc t f k) 1 = t 2 := zc_t (by decide)
  have s6 : zc t f k 6 = t 6 := zc_t (by decide)
  obtain ⟨r1, r2⟩ := rs_zc (due := ktL k t w) (tol := t 2) (t := t) (k := k) 4 0 f 0 rfl
  have e2 : lrQ f k t w = (rsL (nI d) (t 2) 4 8 (zc t f k) 0).2 := by rw [← ed]; exact r2
  have e3 : rsZ cn (zc t f k) sf wf (sgR (zc t f k)) = upd (rsL (nI d) (t 2) 4 8 (zc t f k) 0).1 6 ((rsL (nI d) (t 2) 4 8 (zc t f k) 0).1 6 + (rsL (nI d) (t 2) 4 8 (zc t f k) 0).2) := by
    unfold rsZ; rw [if_neg hn, et, ed, s1]
  have n6 : ∀ i, (i < 8 ∨ 36 ≤ i) → (rsL (nI d) (t 2) 4 8 (zc t f k) 0).1 i = zc t f k i := fun i hi => rsL_n hi 4 8 _ _ (by omega) (by omega)
  refine ⟨?_, ?_, by rw [e3]; exact (rs_F hd 4 8 _ _ (by omega) (by omega) hF).up (by omega), fun i hi => ?_, ?_⟩
  · rw [e3, n6 6 (by omega), s6, ← e2]
    unfold lrT
    rw [zc_ut (by decide)]
    refine congrArg (fun z => upd z 6 (t 6 + lrQ f k t w)) ?_
    rw [← ed]; exact r1
  · unfold rsR; rw [if_neg hn, et, ed, s1]; exact e2
  · rw [e3, up_n (by omega)]; exact n6 i (by omega)
  · rw [e3, up_n (by omega)]; exact n6 0 (by omega)

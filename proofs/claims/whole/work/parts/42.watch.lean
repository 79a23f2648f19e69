/-! PURE PART: keepers on watch -/
/-- the keepers of both sides: S the class's starts in their order, R the reference's -/
def KR (cn : Nat) (sf wf z : RI) (S R : Nat → Nat) : Prop :=
  (∀ k, k < cn → S k < 1440 ∧ sf k = nI (S k)) ∧ (∀ j, j < cn → R j < 1440 ∧ z (36 + 2 * j) = nI (R j)) ∧ (∀ j, j < cn → ∃ w, w ≤ 60 ∧ z (36 + 2 * j + 1) = nI w - 30) ∧
  (∀ i j, i < cn → j < cn → R i = R j → i = j) ∧ (∀ i j, i < j → j < cn → S i < S j) ∧ (∀ k, k < cn → ∃ j, j < cn ∧ S k = R j ∧ wf k = z (36 + 2 * j + 1)) ∧ (∀ j, j < cn → ∃ k, k < cn ∧ S k = R j)
theorem KR.mv {cn : Nat} {sf wf z z' : RI} {S R : Nat → Nat} (h : KR cn sf wf z S R) (hz : ∀ i, 36 ≤ i → z' i = z i) : KR cn sf wf z' S R := by
  obtain ⟨h1, h2, h3, h4, h5, h6, h7⟩ := h
  refine ⟨h1, fun j hj => ?_, fun j hj => ?_, h4, h5, fun k hk => ?_, h7⟩
  · rw [hz _ (by omega)]; exact h2 j hj
  · rw [hz _ (by omega)]; exact h3 j hj
  · obtain ⟨j, a, b, c⟩ := h6 k hk
    exact ⟨j, a, b, by rw [hz _ (by omega)]; exact c⟩
/-- for how long a start s is past at the minute m -/
def sN (m s : Nat) : Nat := (m + 1440 - s) % 1440
theorem paN_spec {sf : RI} {S : Nat → Nat} {cn m : Nat} (hS : ∀ k, k < cn → S k < 1440 ∧ sf k = nI (S k)) (hm : m < 1440) : ∀ (n k f : Nat), k + n = cn →
    (paN sf (nI m) n k f = f ∧ ∀ j, k ≤ j → j < cn → m < S j) ∨ (k ≤ paN sf (nI m) n k f ∧ paN sf (nI m) n k f < cn ∧ S (paN sf (nI m) n k f) ≤ m ∧ ∀ j, paN sf (nI m) n k f < j → j < cn → m < S j) := by
  intro n
  induction n with
  | zero => exact fun k f hk => Or.inl ⟨rfl, fun j h1 h2 => absurd h2 (by omega)⟩
  | succ n ih =>
    intro k f hk
    obtain ⟨b, c⟩ := hS k (by omega)
    by_cases h : m < S k
    · have q : paN sf (nI m) (n + 1) k f = paN sf (nI m) n (k + 1) f := if_pos (by rw [c]; exact nI_lt h (by omega))
      rw [q]
      rcases ih (k + 1) f (by omega) with ⟨h1, h2⟩ | ⟨h1, h2, h3, h4⟩
      · refine Or.inl ⟨h1, fun j g1 g2 => ?_⟩
        by_cases g : j = k
        · subst g; exact h
        · exact h2 j (by omega) g2
      · exact Or.inr ⟨by omega, h2, h3, h4⟩
    · have q : paN sf (nI m) (n + 1) k f = paN sf (nI m) n (k + 1) k := if_neg (by rw [c]; exact nI_nlt (by omega) (by omega))
      rw [q]
      rcases ih (k + 1) k (by omega) with ⟨h1, h2⟩ | ⟨h1, h2, h3, h4⟩
      · refine Or.inr ⟨by omega, by omega, by rw [h1]; omega, fun j g1 g2 => h2 j (by omega) g2⟩
      · exact Or.inr ⟨by omega, h2, h3, h4⟩
theorem pa_least {sf : RI} {S : Nat → Nat} {cn m : Nat} (hS : ∀ k, k < cn → S k < 1440 ∧ sf k = nI (S k)) (hs : ∀ i j, i < j → j < cn → S i < S j) (hm : m < 1440) (h1 : 1 ≤ cn) :
    pa cn sf (nI m) < cn ∧ ∀ j, j < cn → j ≠ pa cn sf (nI m) → sN m (S (pa cn sf (nI m))) < sN m (S j) := by
  unfold pa
  rcases paN_spec hS hm cn 0 (cn - 1) (Nat.zero_add cn) with ⟨a, b⟩ | ⟨a, b, c, d⟩
  · rw [a]
    refine ⟨by omega, fun j hj hn => ?_⟩
    have p1 := b j (Nat.zero_le _) hj
    have p2 := b (cn - 1) (Nat.zero_le _) (by omega)
    have p3 := hs j (cn - 1) (by omega) (by omega)
    have p4 := (hS j hj).1
    have p5 := (hS (cn - 1) (by omega)).1
    unfold sN; omega
  · generalize paN sf (nI m) cn 0 (cn - 1) = r at a b c d
    refine ⟨b, fun j hj hn => ?_⟩
    have p4 := (hS j hj).1
    have p5 := (hS r b).1
    rcases Nat.lt_or_ge j r with g | g
    · have p3 := hs j r g b
      unfold sN; omega
    · have p1 := d j (by omega) hj
      unfold sN; omega
theorem sin_eq {z : RI} {R : Nat → Nat} {cn m k : Nat} (hR : ∀ j, j < cn → R j < 1440 ∧ z (36 + 2 * j) = nI (R j)) (hm : m < 1440) (hk : k < cn) : sinM z k (nI m) = nI (sN m (R k)) := by
  obtain ⟨a, b⟩ := hR k hk
  unfold sinM sN
  rw [b]; exact za_ahead hm a
theorem sN_lt (m s : Nat) : sN m s < 1440 := Nat.mod_lt _ (by decide)
theorem owL_spec {z : RI} {R : Nat → Nat} {cn m : Nat} (hR : ∀ j, j < cn → R j < 1440 ∧ z (36 + 2 * j) = nI (R j)) (hm : m < 1440) : ∀ (n k b : Nat), k + n = cn → b < cn → (∀ j, j < k → sN m (R b) ≤ sN m (R j)) →
    owL z (nI m) n k b < cn ∧ ∀ j, j < cn → sN m (R (owL z (nI m) n k b)) ≤ sN m (R j) := by
  intro n
  induction n with
  | zero => exact fun k b hk hb hi => ⟨hb, fun j hj => hi j (by omega)⟩
  | succ n ih =>
    intro k b hk hb hi
    have s1 := sin_eq hR hm hb
    have s2 := sin_eq hR hm (k := k) (by omega)
    have l1 := sN_lt m (R b)
    have l2 := sN_lt m (R k)
    by_cases h : sN m (R b) ≤ sN m (R k)
    · have q : owL z (nI m) (n + 1) k b = owL z (nI m) n (k + 1) b := if_pos (by rw [s1, s2]; exact nI_le h (by omega))
      rw [q]
      refine ih (k + 1) b (by omega) hb (fun j hj => ?_)
      by_cases g : j = k
      · subst g; exact h
      · exact hi j (by omega)
    · have q : owL z (nI m) (n + 1) k b = owL z (nI m) n (k + 1) k := if_neg (by rw [s1, s2]; exact nI_ge (by omega) (by omega))
      rw [q]
      refine ih (k + 1) k (by omega) (by omega) (fun j hj => ?_)
      by_cases g : j = k
      · subst g; exact Nat.le_refl _
      · have := hi j (by omega); omega
theorem ow_least {z : RI} {R : Nat → Nat} {cn m : Nat} (hR : ∀ j, j < cn → R j < 1440 ∧ z (36 + 2 * j) = nI (R j)) (hm : m < 1440) (h1 : 1 ≤ cn) : owN z (nI m) cn < cn ∧ ∀ j, j < cn → sN m (R (owN z (nI m) cn)) ≤ sN m (R j) :=
  owL_spec hR hm (cn - 1) 1 0 (by omega) (by omega) (fun j hj => by have q : j = 0 := (by omega); subst q; exact Nat.le_refl _)
/-- the keeper on watch is the same -/
theorem watch {cn m : Nat} {sf wf z : RI} {S R : Nat → Nat} (h : KR cn sf wf z S R) (hm : m < 1440) (h1 : 1 ≤ cn) :
    pa cn sf (nI m) < cn ∧ owN z (nI m) cn < cn ∧ S (pa cn sf (nI m)) = R (owN z (nI m) cn) ∧ sf (pa cn sf (nI m)) = z (36 + 2 * owN z (nI m) cn) ∧ wf (pa cn sf (nI m)) = z (36 + 2 * owN z (nI m) cn + 1) := by
  obtain ⟨hS, hR, hw, hd, hs, hcr, hrc⟩ := h
  obtain ⟨p1, p2⟩ := pa_least hS hs hm h1
  obtain ⟨r1, r2⟩ := ow_least hR hm h1
  generalize pa cn sf (nI m) = p at p1 p2
  generalize owN z (nI m) cn = r at r1 r2
  obtain ⟨j0, a1, a2, a3⟩ := hcr p p1
  obtain ⟨k0, b1, b2⟩ := hrc r r1
  have q := r2 j0 a1
  rw [← a2, ← b2] at q
  have hk : k0 = p := by
    rcases Nat.decEq k0 p with g | g
    · have := p2 k0 b1 g; omega
    · exact g
  subst hk
  have hj : j0 = r := hd j0 r a1 r1 (by rw [← a2, b2])
  subst hj
  exact ⟨p1, r1, a2, by rw [(hS _ p1).2, (hR _ r1).2, a2], a3⟩
/-- the time of the keeper on watch -/
theorem tok_due {cn t : Nat} {sf wf z x : RI} {S R : Nat → Nat} (h : KR cn sf wf z S R) (h1 : 1 ≤ cn) (ht : t < 2 ^ 30) (hz : z 0 = nI t) (hx : x 0 = z 0) : tok cn x sf wf = dueM cn z ∧ ∃ d, d < 720 ∧ dueM cn z = nI d := by
  have hm : t % 1440 < 1440 := Nat.mod_lt _ (by decide)
  obtain ⟨p1, r1, -, -, q⟩ := watch h hm h1
  obtain ⟨w, hw, ew⟩ := h.2.2.1 _ r1
  have q1 : jrem (x 0) 1440 = nI (t % 1440) := by rw [hx, hz]; exact za_r1440 (by omega)
  have q2 : jrem (z 0) 1440 = nI (t % 1440) := by rw [hz]; exact za_r1440 (by omega)
  have c1 : tok cn x sf wf = nI ((t % 720 + w + 690) % 720) := by
    unfold tok
    rw [if_neg (by omega), q1, q, ew, hx, hz]
    exact za_tok ht hw
  have c2 : dueM cn z = nI ((t % 720 + w + 690) % 720) := by
    unfold dueM tmM
    rw [q2, ew, hz]
    exact za_tokM ht hw
  exact ⟨c1.trans c2.symm, _, Nat.mod_lt _ (by decide), c2⟩
theorem tok_none {x sf wf : RI} : tok 0 x sf wf = -1000 := if_pos rfl
theorem tok_x {cn : Nat} {x z sf wf : RI} (h : x 0 = z 0) : tok cn x sf wf = tok cn z sf wf := by unfold tok; rw [h]

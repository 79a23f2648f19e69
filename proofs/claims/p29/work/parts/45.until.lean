/-! PURE PART: minutes until the next keeper -/
/-- how far a start s is ahead of the minute m -/
def aN (m s : Nat) : Nat := (s + 1440 - m) % 1440
theorem aN_lt (m s : Nat) : aN m s < 1440 := Nat.mod_lt _ (by decide)
theorem pa_next {sf : RI} {S : Nat → Nat} {cn m : Nat} (hS : ∀ k, k < cn → S k < 1440 ∧ sf k = nI (S k)) (hs : ∀ i j, i < j → j < cn → S i < S j) (hm : m < 1440) (h2 : 2 ≤ cn) :
    ∃ nx, nx < cn ∧ nx = (pa cn sf (nI m) + 1) % cn ∧ nx ≠ pa cn sf (nI m) ∧ ∀ j, j < cn → j ≠ pa cn sf (nI m) → aN m (S nx) ≤ aN m (S j) := by
  unfold pa
  rcases paN_spec hS hm cn 0 (cn - 1) (Nat.zero_add cn) with ⟨a, b⟩ | ⟨a, b, c, d⟩
  · rw [a]
    have q : (cn - 1 + 1) % cn = 0 := by rw [show cn - 1 + 1 = cn by omega]; exact Nat.mod_self cn
    rw [q]
    refine ⟨0, by omega, rfl, by omega, fun j hj hn => ?_⟩
    have p1 := b j (Nat.zero_le _) hj
    have p2 := b 0 (Nat.zero_le _) (by omega)
    have p4 := (hS j hj).1
    have p5 := (hS 0 (by omega)).1
    by_cases g : j = 0
    · subst g; exact Nat.le_refl _
    · have p3 := hs 0 j (by omega) hj
      unfold aN; omega
  · generalize paN sf (nI m) cn 0 (cn - 1) = r at a b c d
    have p5 := (hS r b).1
    by_cases g : r + 1 = cn
    · have q : (r + 1) % cn = 0 := by rw [g]; exact Nat.mod_self cn
      rw [q]
      refine ⟨0, by omega, rfl, by omega, fun j hj hn => ?_⟩
      have p6 := (hS 0 (by omega)).1
      have p7 := hs 0 r (by omega) b
      have p4 := (hS j hj).1
      have p8 := hs j r (by omega) b
      by_cases g2 : j = 0
      · subst g2; exact Nat.le_refl _
      · have p3 := hs 0 j (by omega) hj
        unfold aN; omega
    · have q : (r + 1) % cn = r + 1 := Nat.mod_eq_of_lt (by omega)
      rw [q]
      refine ⟨r + 1, by omega, rfl, by omega, fun j hj hn => ?_⟩
      have p6 := (hS (r + 1) (by omega)).1
      have p7 := d (r + 1) (by omega) (by omega)
      have p4 := (hS j hj).1
      rcases Nat.lt_trichotomy j (r + 1) with g2 | g2 | g2
      · have p8 := hs j r (by omega) b
        unfold aN; omega
      · subst g2; exact Nat.le_refl _
      · have p8 := hs (r + 1) j g2 hj
        have p9 := d j (by omega) hj
        unfold aN; omega
/-- minutes until the next keeper is on watch, on the law's row -/
def utI (k : RI) (a : Int32) (w : Nat) : Nat → Nat → Int32 → Int32
  | 0, _, u => u
  | n + 1, m, u => if nI m = nI w then utI k a w n (m + 1) u else if u ≤ jrem ((k (2 * m) + 1440) - a) 1440 then utI k a w n (m + 1) u else utI k a w n (m + 1) (jrem ((k (2 * m) + 1440) - a) 1440)
theorem utI_spec {k9 : RI} {R : Nat → Nat} {cn m w : Nat} (hR : ∀ j, j < cn → R j < 1440 ∧ k9 (2 * j) = nI (R j)) (hm : m < 1440) (hc : cn ≤ 6) (hw : w < cn) : ∀ (n k u : Nat), k + n = cn → u ≤ 1440 →
    ∃ r, utI k9 (nI m) w n k (nI u) = nI r ∧ r ≤ u ∧ (∀ j, k ≤ j → j < cn → j ≠ w → r ≤ aN m (R j)) ∧ (r = u ∨ ∃ j, k ≤ j ∧ j < cn ∧ j ≠ w ∧ r = aN m (R j)) := by
  intro n
  induction n with
  | zero => exact fun k u hk hu => ⟨u, rfl, Nat.le_refl u, fun j h1 h2 => absurd h2 (by omega), Or.inl rfl⟩
  | succ n ih =>
    intro k u hk hu
    obtain ⟨a, b⟩ := hR k (by omega)
    have e1 : jrem ((k9 (2 * k) + 1440) - nI m) 1440 = nI (aN m (R k)) := by rw [b, show nI (R k) + 1440 = nI (R k + 1440) from nI_add (R k) 1440, pk_sub (by omega)]; exact za_r1440 (by omega)
    have l1 := aN_lt m (R k)
    by_cases g : k = w
    · subst g
      rw [show utI k9 (nI m) k (n + 1) k (nI u) = utI k9 (nI m) k n (k + 1) (nI u) from if_pos rfl]
      obtain ⟨r, r1, r2, r3, r4⟩ := ih (k + 1) u (by omega) hu
      refine ⟨r, r1, r2, fun j h1 h2 h3 => r3 j (by omega) h2 h3, ?_⟩
      rcases r4 with q | ⟨j, j1, j2, j3, j4⟩
      · exact Or.inl q
      · exact Or.inr ⟨j, by omega, j2, j3, j4⟩
    · have gn : ¬ nI k = nI w := fun q => g ((nI_eq (by omega) (by omega)).mp q)
      by_cases h : u ≤ aN m (R k)
      · have q : utI k9 (nI m) w (n + 1) k (nI u) = utI k9 (nI m) w n (k + 1) (nI u) := (if_neg gn).trans (if_pos (by rw [e1]; exact nI_le h (by omega)))
        rw [q]
        obtain ⟨r, r1, r2, r3, r4⟩ := ih (k + 1) u (by omega) hu
        refine ⟨r, r1, r2, fun j h1 h2 h3 => ?_, ?_⟩
        · by_cases g2 : j = k
          · subst g2; omega
          · exact r3 j (by omega) h2 h3
        · rcases r4 with q | ⟨j, j1, j2, j3, j4⟩
          · exact Or.inl q
          · exact Or.inr ⟨j, by omega, j2, j3, j4⟩
      · have q : utI k9 (nI m) w (n + 1) k (nI u) = utI k9 (nI m) w n (k + 1) (nI (aN m (R k))) := (if_neg gn).trans ((if_neg (by rw [e1]; exact nI_ge (by omega) (by omega))).trans (by rw [e1]))
        rw [q]
        obtain ⟨r, r1, r2, r3, r4⟩ := ih (k + 1) (aN m (R k)) (by omega) (by omega)
        refine ⟨r, r1, by omega, fun j h1 h2 h3 => ?_, ?_⟩
        · by_cases g2 : j = k
          · subst g2; exact r2
          · exact r3 j (by omega) h2 h3
        · rcases r4 with q | ⟨j, j1, j2, j3, j4⟩
          · exact Or.inr ⟨k, Nat.le_refl k, by omega, g, q⟩
          · exact Or.inr ⟨j, by omega, j2, j3, j4⟩
theorem until_eq {cn m w : Nat} {sf wf t f k9 : RI} {S R : Nat → Nat} (h : KR cn sf wf (zc t f k9) S R) (hc : cn ≤ 6) (hm : m < 1440) (h1 : 1 ≤ cn) (w1 : w < cn) (p1 : pa cn sf (nI m) < cn) (pw1 : S (pa cn sf (nI m)) = R w) : mtn cn sf (nI m) = utI k9 (nI m) w cn 0 1440 := by
  obtain ⟨hS, hR, hw, hd, hs, hcr, hrc⟩ := h
  have hR9 : ∀ j, j < cn → R j < 1440 ∧ k9 (2 * j) = nI (R j) := fun j hj => ⟨(hR j hj).1, by rw [← (hR j hj).2]; exact zc_k.symm⟩
  obtain ⟨r, r1, r2, r3, r4⟩ := utI_spec (w := w) hR9 hm hc w1 cn 0 1440 (Nat.zero_add cn) (Nat.le_refl _)
  have r1' : utI k9 (nI m) w cn 0 1440 = nI r := r1
  rw [r1']
  unfold mtn
  by_cases c : cn = 1
  · rw [if_neg (by omega)]
    rcases r4 with q | ⟨j, j1, j2, j3, -⟩
    · rw [q]; rfl
    · omega
  · rw [if_pos (by omega)]
    obtain ⟨nx, n1, n2, n3, n4⟩ := pa_next hS hs hm (by omega)
    rw [← n2]
    obtain ⟨s1, s2⟩ := hS nx n1
    rw [s2, za_fahead s1 hm]
    generalize pa cn sf (nI m) = p at p1 pw1 n3 n4
    have inj : ∀ i k, i < cn → k < cn → S i = S k → i = k := by
      intro i k h1 h2 q
      rcases Nat.lt_trichotomy i k with g | g | g
      · have := hs i k g h2; omega
      · exact g
      · have := hs k i g h1; omega
    obtain ⟨j2, j2a, j2b, -⟩ := hcr nx n1
    have hj2 : j2 ≠ w := fun q => n3 (inj nx p n1 p1 (by rw [j2b, q, pw1]))
    have q1 := r3 j2 (Nat.zero_le _) j2a hj2
    rw [← j2b] at q1
    have l1 := aN_lt m (S nx)
    rcases r4 with q | ⟨j, -, j1, j3, j4⟩
    · omega
    · obtain ⟨k, k1, k2⟩ := hrc j j1
      have hk : k ≠ p := fun q => j3 (hd j w j1 w1 (by rw [← k2, q, pw1]))
      have q2 := n4 k k1 hk
      rw [k2] at q2
      have q3 : aN m (S nx) = r := by omega
      exact congrArg nI q3

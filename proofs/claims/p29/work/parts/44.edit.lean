/-! PURE PART: keepers hired and dismissed -/
/-! PURE PART: keepers hired and dismissed -/
theorem hsL_0 {sf : RI} {x : Int32} {cn : Nat} : ∀ (n k : Nat), k + n = cn → (hsL sf x n k = 0 ↔ ∀ j, k ≤ j → j < cn → ¬ sf j = x) := by
  intro n
  induction n with
  | zero => exact fun k hk => ⟨fun _ j h1 h2 => absurd h2 (by omega), fun _ => rfl⟩
  | succ n ih =>
    intro k hk
    by_cases h : sf k = x
    · rw [show hsL sf x (n + 1) k = 1 from if_pos h]
      exact ⟨fun q => absurd q (by decide), fun q => absurd h (q k (Nat.le_refl k) (by omega))⟩
    · rw [show hsL sf x (n + 1) k = hsL sf x n (k + 1) from if_neg h, ih (k + 1) (by omega)]
      refine ⟨fun q j h1 h2 => ?_, fun q j h1 h2 => q j (by omega) h2⟩
      by_cases g : j = k
      · subst g; exact h
      · exact q j (by omega) h2
/-- whether there is a keeper with this start, on the law's row -/
def thL (k : RI) (x : Int32) : Nat → Nat → Int32 → Int32
  | 0, _, b => b
  | n + 1, m, b => if b = 0 then (if k (2 * m) = x then thL k x n (m + 1) 1 else thL k x n (m + 1) 0) else thL k x n (m + 1) 1
theorem thL_1 {k : RI} {x : Int32} : ∀ (n m : Nat), thL k x n m 1 = 1 := by
  intro n
  induction n with
  | zero => exact fun m => rfl
  | succ n ih => exact fun m => (if_neg (by decide)).trans (ih (m + 1))
theorem thL_s {k : RI} {x : Int32} {cn : Nat} : ∀ (n m : Nat), m + n = cn → (thL k x n m 0 = 0 ∧ ∀ j, m ≤ j → j < cn → ¬ k (2 * j) = x) ∨ (thL k x n m 0 = 1 ∧ ∃ j, m ≤ j ∧ j < cn ∧ k (2 * j) = x) := by
  intro n
  induction n with
  | zero => exact fun m h => Or.inl ⟨rfl, fun j h1 h2 => absurd h2 (by omega)⟩
  | succ n ih =>
    intro m h
    by_cases g : k (2 * m) = x
    · exact Or.inr ⟨((if_pos rfl).trans (if_pos g)).trans (thL_1 n (m + 1)), m, Nat.le_refl m, by omega, g⟩
    · have e : thL k x (n + 1) m 0 = thL k x n (m + 1) 0 := (if_pos rfl).trans (if_neg g)
      rw [e]
      rcases ih (m + 1) (by omega) with ⟨a, b⟩ | ⟨a, j, b, c, d⟩
      · refine Or.inl ⟨a, fun j h1 h2 => ?_⟩
        by_cases e2 : j = m
        · rw [e2]; exact g
        · exact b j (by omega) h2
      · exact Or.inr ⟨a, j, by omega, c, d⟩
theorem has_iff {cn : Nat} {sf wf z : RI} {S R : Nat → Nat} (h : KR cn sf wf z S R) (x : Int32) : hsL sf x cn 0 = 0 ↔ ∀ j, j < cn → ¬ z (36 + 2 * j) = x := by
  obtain ⟨hS, hR, -, -, -, hcr, hrc⟩ := h
  rw [hsL_0 cn 0 (Nat.zero_add cn)]
  constructor
  · intro q j hj e
    obtain ⟨k, k1, k2⟩ := hrc j hj
    exact q k (Nat.zero_le _) k1 (by rw [(hS k k1).2, k2, ← (hR j hj).2]; exact e)
  · intro q j _ hj e
    obtain ⟨b, b1, b2, -⟩ := hcr j hj
    exact q b b1 (by rw [(hR b b1).2, ← b2, ← (hS j hj).2]; exact e)
/-- whether there is one, on both sides -/
theorem th_has {cn : Nat} {sf wf t f k : RI} {S R : Nat → Nat} (h : KR cn sf wf (zc t f k) S R) (x : Int32) : (thL k x cn 0 0 = 0 ∧ hsL sf x cn 0 = 0) ∨ (thL k x cn 0 0 = 1 ∧ ¬ hsL sf x cn 0 = 0) := by
  have hz : ∀ j, zc t f k (36 + 2 * j) = k (2 * j) := fun j => zc_k
  rcases thL_s (k := k) (x := x) cn 0 (Nat.zero_add cn) with ⟨a, b⟩ | ⟨a, j, -, c, d⟩
  · exact Or.inl ⟨a, (has_iff h x).mpr fun j hj => by rw [hz]; exact b j (Nat.zero_le _) hj⟩
  · exact Or.inr ⟨a, fun q => (has_iff h x).mp q j c (by rw [hz]; exact d)⟩
theorem isw_wr {w : Int32} (h : ¬ isw w (-30) 30 = 0) : ∃ k, k ≤ 60 ∧ w = nI k - 30 := by
  unfold isw at h
  by_cases h1 : w < -30
  · rw [if_pos h1] at h; exact absurd rfl h
  · rw [if_neg h1] at h
    by_cases h2 : 30 < w
    · rw [if_pos h2] at h; exact absurd rfl h
    · have a1 : (-30 : Int) ≤ w.toInt := Int32.le_iff_toInt_le.mp (Int32.not_lt.mp h1)
      have a2 : w.toInt ≤ 30 := Int32.le_iff_toInt_le.mp (Int32.not_lt.mp h2)
      refine ⟨(w.toInt + 30).toNat, by omega, ?_⟩
      apply Int32.toInt_inj.mp
      rw [show nI (w.toInt + 30).toNat - 30 = nI (w.toInt + 30).toNat - nI 30 from rfl, pk_sub_toInt (by omega) (by omega)]
      omega
/-- a place is found from the end -/
theorem adL_spec (x w : Int32) : ∀ (k : Nat) (sf wf : RI), ∃ i, i ≤ k ∧ (∀ j, i ≤ j → j < k → ¬ sf j ≤ x) ∧ (i = 0 ∨ sf (i - 1) ≤ x) ∧
    (∀ j, (adL x w k sf wf).1 j = if j < i then sf j else if j = i then x else if j ≤ k then sf (j - 1) else sf j) ∧ (∀ j, (adL x w k sf wf).2 j = if j < i then wf j else if j = i then w else if j ≤ k then wf (j - 1) else wf j) := by
  intro k
  induction k with
  | zero =>
    intro sf wf
    refine ⟨0, Nat.le_refl 0, fun j h1 h2 => absurd h2 (by omega), Or.inl rfl, fun j => ?_, fun j => ?_⟩
    · show upd sf 0 x j = _
      unfold upd
      rw [if_neg (show ¬ j < 0 by omega)]
      by_cases g : j = 0
      · rw [if_pos g, if_pos g]
      · rw [if_neg g, if_neg g, if_neg (by omega)]
    · show upd wf 0 w j = _
      unfold upd
      rw [if_neg (show ¬ j < 0 by omega)]
      by_cases g : j = 0
      · rw [if_pos g, if_pos g]
      · rw [if_neg g, if_neg g, if_neg (by omega)]
  | succ k ih =>
    intro sf wf
    by_cases h : sf k ≤ x
    · rw [show adL x w (k + 1) sf wf = (upd sf (k + 1) x, upd wf (k + 1) w) from if_pos h]
      refine ⟨k + 1, Nat.le_refl _, fun j h1 h2 => absurd h2 (by omega), Or.inr h, fun j => ?_, fun j => ?_⟩
      · show upd sf (k + 1) x j = _
        unfold upd
        by_cases g : j = k + 1
        · rw [if_pos g, if_neg (by omega), if_pos g]
        · rw [if_neg g]
          by_cases g2 : j < k + 1
          · rw [if_pos g2]
          · rw [if_neg g2, if_neg g, if_neg (by omega)]
      · show upd wf (k + 1) w j = _
        unfold upd
        by_cases g : j = k + 1
        · rw [if_pos g, if_neg (by omega), if_pos g]
        · rw [if_neg g]
          by_cases g2 : j < k + 1
          · rw [if_pos g2]
          · rw [if_neg g2, if_neg g, if_neg (by omega)]
    · rw [show adL x w (k + 1) sf wf = adL x w k (upd sf (k + 1) (sf k)) (upd wf (k + 1) (wf k)) from if_neg h]
      obtain ⟨i, i1, i2, i3, i4, i5⟩ := ih (upd sf (k + 1) (sf k)) (upd wf (k + 1) (wf k))
      refine ⟨i, by omega, fun j h1 h2 => ?_, ?_, fun j => ?_, fun j => ?_⟩
      · by_cases g : j = k
        · subst g; exact h
        · have := i2 j h1 (by omega)
          rw [up_n (by omega)] at this; exact this
      · rcases i3 with q | q
        · exact Or.inl q
        · rw [up_n (by omega)] at q; exact Or.inr q
      · rw [i4 j]
        by_cases g1 : j < i
        · rw [if_pos g1, if_pos g1, up_n (by omega)]
        · rw [if_neg g1, if_neg g1]
          by_cases g2 : j = i
          · rw [if_pos g2, if_pos g2]
          · rw [if_neg g2, if_neg g2]
            by_cases g3 : j ≤ k
            · rw [if_pos g3, if_pos (by omega), up_n (by omega)]
            · rw [if_neg g3]
              by_cases g4 : j = k + 1
              · subst g4; rw [up_s, if_pos (Nat.le_refl _)]; rfl
              · rw [up_n g4, if_neg (by omega)]
      · rw [i5 j]
        by_cases g1 : j < i
        · rw [if_pos g1, if_pos g1, up_n (by omega)]
        · rw [if_neg g1, if_neg g1]
          by_cases g2 : j = i
          · rw [if_pos g2, if_pos g2]
          · rw [if_neg g2, if_neg g2]
            by_cases g3 : j ≤ k
            · rw [if_pos g3, if_pos (by omega), up_n (by omega)]
            · rw [if_neg g3]
              by_cases g4 : j = k + 1
              · subst g4; rw [up_s, if_pos (Nat.le_refl _)]; rfl
              · rw [up_n g4, if_neg (by omega)]
def hirM (z : RI) (cn : Nat) (x w : Int32) : RI := upd (upd (upd z (36 + 2 * cn) x) (36 + 2 * cn + 1) w) 7 (nI (cn + 1))
theorem hir_zc {t f k : RI} {cn : Nat} {x w : Int32} : zc (upd t 7 (nI (cn + 1))) f (upd (upd k (2 * cn) x) (2 * cn + 1) w) = hirM (zc t f k) cn x w := by
  rw [zc_ut (by decide), zc_uk, zc_uk]; rfl
theorem hirM_s {z : RI} {cn j : Nat} {x w : Int32} (hj : j < cn) : hirM z cn x w (36 + 2 * j) = z (36 + 2 * j) ∧ hirM z cn x w (36 + 2 * j + 1) = z (36 + 2 * j + 1) := by
  unfold hirM
  exact ⟨by rw [up_n (by omega), up_n (by omega), up_n (by omega)], by rw [up_n (by omega), up_n (by omega), up_n (by omega)]⟩
theorem hirM_c {z : RI} {cn : Nat} {x w : Int32} : hirM z cn x w (36 + 2 * cn) = x ∧ hirM z cn x w (36 + 2 * cn + 1) = w := by
  unfold hirM
  exact ⟨by rw [up_n (by omega), up_n (by omega), up_s], by rw [up_n (by omega), up_s]⟩
theorem hirM_n {z : RI} {cn i : Nat} {x w : Int32} (h7 : ¬ i = 7) (hi : i < 36) : hirM z cn x w i = z i := by
  unfold hirM
  rw [up_n h7, up_n (by omega), up_n (by omega)]
theorem KR.hire {cn : Nat} {sf wf z : RI} {S R : Nat → Nat} {x w : Int32} (h : KR cn sf wf z S R) (hc : cn ≤ 6) (he : eoa x w cn sf = 0) :
    cn < 6 ∧ ∃ S' R' : Nat → Nat, KR (cn + 1) (adL x w cn sf wf).1 (adL x w cn sf wf).2 (hirM z cn x w) S' R' := by
  have hc6 : cn < 6 := eoa_lt hc he
  refine ⟨hc6, ?_⟩
  unfold eoa at he
  by_cases c1 : isw x 0 1439 = 0
  · rw [if_pos c1] at he; exact absurd he (by decide)
  rw [if_neg c1] at he
  by_cases c2 : isw w (-30) 30 = 0
  · rw [if_pos c2] at he; exact absurd he (by decide)
  rw [if_neg c2] at he
  by_cases c3 : hsL sf x cn 0 = 0
  case neg => rw [if_neg c3] at he; exact absurd he (by decide)
  have hno := (hsL_0 cn 0 (Nat.zero_add cn)).mp c3
  obtain ⟨X, hX, rfl⟩ := isw_nI (n := 1439) (by decide) c1
  obtain ⟨W, hW, rfl⟩ := isw_wr c2
  obtain ⟨hS, hR, hw, hd, hs, hcr, hrc⟩ := h
  have noS : ∀ k, k < cn → S k ≠ X := fun k hk q => hno k (Nat.zero_le _) hk (by rw [(hS k hk).2, q])
  have noR : ∀ j, j < cn → R j ≠ X := fun j hj q => by
    obtain ⟨k, k1, k2⟩ := hrc j hj
    exact noS k k1 (k2.trans q)
  obtain ⟨i, i1, i2, i3, i4, i5⟩ := adL_spec (nI X) (nI W - 30) cn sf wf
  have lo : ∀ k, k < i → S k < X := by
    intro k hk
    have q1 : S (i - 1) < X := by
      rcases i3 with q | q
      · omega
      · rw [(hS (i - 1) (by omega)).2] at q
        have q2 := (nI_leI (by have := (hS (i - 1) (by omega)).1; omega) (by omega)).mp q
        have q3 := noS (i - 1) (by omega)
        omega
    by_cases g : k = i - 1
    · rw [g]; exact q1
    · have := hs k (i - 1) (by omega) (by omega); omega
  have hi : ∀ k, i ≤ k → k < cn → X < S k := by
    intro k h1 h2
    have q := i2 k h1 h2
    rw [(hS k h2).2] at q
    rcases Nat.lt_or_ge X (S k) with g | g
    · exact g
    · exact absurd (nI_le g (by omega)) q
  generalize (adL (nI X) (nI W - 30) cn sf wf).1 = sf' at i4
  generalize (adL (nI X) (nI W - 30) cn sf wf).2 = wf' at i5
  have sA : ∀ k, k < i → sf' k = sf k ∧ wf' k = wf k := fun k hk => ⟨by rw [i4, if_pos hk], by rw [i5, if_pos hk]⟩
  have sB : sf' i = nI X ∧ wf' i = nI W - 30 := ⟨by rw [i4, if_neg (by omega), if_pos rfl], by rw [i5, if_neg (by omega), if_pos rfl]⟩
  have sC : ∀ k, i < k → k ≤ cn → sf' k = sf (k - 1) ∧ wf' k = wf (k - 1) := fun k h1 h2 => ⟨by rw [i4, if_neg (by omega), if_neg (by omega), if_pos h2], by rw [i5, if_neg (by omega), if_neg (by omega), if_pos h2]⟩
  obtain ⟨S', dS⟩ : ∃ S' : Nat → Nat, ∀ k, S' k = if k < i then S k else if k = i then X else S (k - 1) := ⟨_, fun k => rfl⟩
  obtain ⟨R', dR⟩ : ∃ R' : Nat → Nat, ∀ j, R' j = if j = cn then X else R j := ⟨_, fun j => rfl⟩
  have tA : ∀ k, k < i → S' k = S k := fun k hk => by rw [dS, if_pos hk]
  have tB : S' i = X := by rw [dS, if_neg (by omega), if_pos rfl]
  have tC : ∀ k, i < k → S' k = S (k - 1) := fun k hk => by rw [dS, if_neg (by omega), if_neg (by omega)]
  have rA : ∀ j, j < cn → R' j = R j := fun j hj => by rw [dR, if_neg (by omega)]
  have rB : R' cn = X := by rw [dR, if_pos rfl]
  refine ⟨S', R', fun k hk => ?_, fun j hj => ?_, fun j hj => ?_, fun a b ha hb hab => ?_, fun a b hab hb => ?_, fun k hk => ?_, fun j hj => ?_⟩
  · rcases Nat.lt_trichotomy k i with g | g | g
    · rw [tA k g, (sA k g).1]; exact hS k (by omega)
    · rw [g, tB, sB.1]; exact ⟨by omega, rfl⟩
    · rw [tC k g, (sC k g (by omega)).1]; exact hS (k - 1) (by omega)
  · by_cases g : j = cn
    · rw [g, rB, hirM_c.1]; exact ⟨by omega, rfl⟩
    · rw [rA j (by omega), (hirM_s (by omega)).1]; exact hR j (by omega)
  · by_cases g : j = cn
    · rw [g, hirM_c.2]; exact ⟨W, hW, rfl⟩
    · rw [(hirM_s (by omega)).2]; exact hw j (by omega)
  · by_cases g1 : a = cn
    · by_cases g2 : b = cn
      · omega
      · rw [g1, rB, rA b (by omega)] at hab; exact absurd hab.symm (noR b (by omega))
    · by_cases g2 : b = cn
      · rw [g2, rB, rA a (by omega)] at hab; exact absurd hab (noR a (by omega))
      · rw [rA a (by omega), rA b (by omega)] at hab; exact hd a b (by omega) (by omega) hab
  · rcases Nat.lt_trichotomy a i with g | g | g
    · rw [tA a g]
      rcases Nat.lt_trichotomy b i with g2 | g2 | g2
      · rw [tA b g2]; exact hs a b hab (by omega)
      · rw [g2, tB]; exact lo a g
      · rw [tC b g2]; have := lo a g; have := hi (b - 1) (by omega) (by omega); omega
    · rw [g, tB, tC b (by omega)]; exact hi (b - 1) (by omega) (by omega)
    · rw [tC a g, tC b (by omega)]; exact hs (a - 1) (b - 1) (by omega) (by omega)
  · rcases Nat.lt_trichotomy k i with g | g | g
    · obtain ⟨j, j1, j2, j3⟩ := hcr k (by omega)
      exact ⟨j, by omega, by rw [tA k g, rA j j1]; exact j2, by rw [(sA k g).2, (hirM_s j1).2]; exact j3⟩
    · exact ⟨cn, by omega, by rw [g, tB, rB], by rw [g, sB.2, hirM_c.2]⟩
    · obtain ⟨j, j1, j2, j3⟩ := hcr (k - 1) (by omega)
      exact ⟨j, by omega, by rw [tC k g, rA j j1]; exact j2, by rw [(sC k g (by omega)).2, (hirM_s j1).2]; exact j3⟩
  · by_cases g : j = cn
    · exact ⟨i, by omega, by rw [g, tB, rB]⟩
    · obtain ⟨k, k1, k2⟩ := hrc j (by omega)
      rcases Nat.lt_or_ge k i with g2 | g2
      · exact ⟨k, by omega, by rw [tA k g2, rA j (by omega)]; exact k2⟩
      · exact ⟨k + 1, by omega, by rw [tC (k + 1) (by omega), rA j (by omega)]; exact k2⟩
/-- dismissing -/
theorem rmL_B (x : Int32) : ∀ (n k j : Nat) (v : Int32) (sf wf : RI), k = j + 1 → (∀ i, k ≤ i → i < k + n → ¬ sf i = x) →
    (rmL x n k j v sf wf).1 = v ∧ (rmL x n k j v sf wf).2.1 = j + n ∧ (∀ i, (rmL x n k j v sf wf).2.2.1 i = if j ≤ i ∧ i < j + n then sf (i + 1) else sf i) ∧ (∀ i, (rmL x n k j v sf wf).2.2.2 i = if j ≤ i ∧ i < j + n then wf (i + 1) else wf i) := by
  intro n
  induction n with
  | zero =>
    intro k j v sf wf hk hn
    exact ⟨rfl, rfl, fun i => (if_neg (by omega)).symm, fun i => (if_neg (by omega)).symm⟩
  | succ n ih =>
    intro k j v sf wf hk hn
    rw [show rmL x (n + 1) k j v sf wf = rmL x n (k + 1) (j + 1) v (upd sf j (sf k)) (upd wf j (wf k)) from if_neg (hn k (Nat.le_refl k) (by omega))]
    obtain ⟨a, b, c, d⟩ := ih (k + 1) (j + 1) v (upd sf j (sf k)) (upd wf j (wf k)) (by omega) (fun i h1 h2 => by rw [up_n (by omega)]; exact hn i (by omega) (by omega))
    refine ⟨a, by omega, fun i => ?_, fun i => ?_⟩
    · rw [c i]
      by_cases g1 : j + 1 ≤ i ∧ i < j + 1 + n
      · rw [if_pos g1, if_pos (by omega), up_n (by omega)]
      · rw [if_neg g1]
        by_cases g2 : i = j
        · rw [g2, up_s, if_pos (by omega), hk]
        · rw [up_n g2, if_neg (by omega)]
    · rw [d i]
      by_cases g1 : j + 1 ≤ i ∧ i < j + 1 + n
      · rw [if_pos g1, if_pos (by omega), up_n (by omega)]
      · rw [if_neg g1]
        by_cases g2 : i = j
        · rw [g2, up_s, if_pos (by omega), hk]
        · rw [up_n g2, if_neg (by omega)]
theorem rmL_A (x : Int32) {p : Nat} {sf wf : RI} (hp : sf p = x) : ∀ (n k : Nat) (v : Int32), (∀ i, k ≤ i → i < p → ¬ sf i = x) → k ≤ p → p < k + n → rmL x n k k v sf wf = rmL x (k + n - p - 1) (p + 1) p (wf p) sf wf := by
  intro n
  induction n with
  | zero => intro k v _ h1 h2; omega
  | succ n ih =>
    intro k v hn h1 h2
    by_cases g : k = p
    · subst g
      rw [show rmL x (n + 1) k k v sf wf = rmL x n (k + 1) k (wf k) sf wf from if_pos hp, show k + (n + 1) - k - 1 = n by omega]
    · rw [show rmL x (n + 1) k k v sf wf = rmL x n (k + 1) (k + 1) v (upd sf k (sf k)) (upd wf k (wf k)) from if_neg (hn k (Nat.le_refl k) (by omega)), up_id, up_id, ih (k + 1) v (fun i q1 q2 => hn i (by omega) q2) (by omega) (by omega), show k + 1 + n - p - 1 = k + (n + 1) - p - 1 by omega]
/-- dismissing: the law's keepers behind the b-th move up -/
def shI (b : Nat) (j : Nat) : Nat := if j < b then j else j + 1
theorem KR.dismiss {cn b : Nat} {sf wf z z' : RI} {S R : Nat → Nat} {x : Int32} (h : KR cn sf wf z S R) (b1 : b < cn) (b3 : z (36 + 2 * b) = x)
    (hz : ∀ j, j < cn - 1 → z' (36 + 2 * j) = z (36 + 2 * shI b j) ∧ z' (36 + 2 * j + 1) = z (36 + 2 * shI b j + 1)) :
    ¬ hsL sf x cn 0 = 0 ∧ (rmL x cn 0 0 0 sf wf).1 = z (36 + 2 * b + 1) ∧ (rmL x cn 0 0 0 sf wf).2.1 = cn - 1 ∧ ∃ S' R' : Nat → Nat, KR (cn - 1) (rmL x cn 0 0 0 sf wf).2.2.1 (rmL x cn 0 0 0 sf wf).2.2.2 z' S' R' := by
  refine ⟨fun q => (has_iff h x).mp q b b1 b3, ?_⟩
  obtain ⟨hS, hR, hw, hd, hs, hcr, hrc⟩ := h
  obtain ⟨p, p1, p2⟩ := hrc b b1
  have inj : ∀ i k, i < cn → k < cn → S i = S k → i = k := by
    intro i k h1 h2 q
    rcases Nat.lt_trichotomy i k with g | g | g
    · have := hs i k g h2; omega
    · exact g
    · have := hs k i g h1; omega
  have hp : sf p = x := by rw [(hS p p1).2, p2, ← (hR b b1).2]; exact b3
  have hne : ∀ i, i < cn → ¬ i = p → ¬ sf i = x := by
    intro i h1 h2 q
    refine h2 (inj i p h1 p1 ?_)
    have q2 : nI (S i) = nI (S p) := by rw [← (hS i h1).2, ← (hS p p1).2, q, hp]
    have l1 := (hS i h1).1
    have l2 := (hS p p1).1
    exact (nI_eq (by omega) (by omega)).mp q2
  have e := rmL_A x (wf := wf) hp cn 0 0 (fun i _ h2 => hne i (by omega) (by omega)) (Nat.zero_le _) (by omega)
  obtain ⟨r1, r2, r3, r4⟩ := rmL_B x (0 + cn - p - 1) (p + 1) p (wf p) sf wf rfl (fun i h1 h2 => hne i (by omega) (by omega))
  rw [← e] at r1 r2 r3 r4
  have hjb : ∀ j, j < cn → S p = R j → j = b := fun j hj q => hd j b hj b1 (by rw [← q, p2])
  refine ⟨?_, by omega, ?_⟩
  · obtain ⟨j, j1, j2, j3⟩ := hcr p p1
    rw [r1, j3, hjb j j1 j2]
  generalize (rmL x cn 0 0 0 sf wf).2.2.1 = sf' at r3
  generalize (rmL x cn 0 0 0 sf wf).2.2.2 = wf' at r4
  have sA : ∀ k, k < p → sf' k = sf k ∧ wf' k = wf k := fun k hk => ⟨by rw [r3, if_neg (by omega)], by rw [r4, if_neg (by omega)]⟩
  have sC : ∀ k, p ≤ k → k < cn - 1 → sf' k = sf (k + 1) ∧ wf' k = wf (k + 1) := fun k h1 h2 => ⟨by rw [r3, if_pos (by omega)], by rw [r4, if_pos (by omega)]⟩
  obtain ⟨S', dS⟩ : ∃ S' : Nat → Nat, ∀ k, S' k = if k < p then S k else S (k + 1) := ⟨_, fun k => rfl⟩
  obtain ⟨R', dR⟩ : ∃ R' : Nat → Nat, ∀ j, R' j = R (shI b j) := ⟨_, fun j => rfl⟩
  have tA : ∀ k, k < p → S' k = S k := fun k hk => by rw [dS, if_pos hk]
  have tC : ∀ k, p ≤ k → S' k = S (k + 1) := fun k hk => by rw [dS, if_neg (by omega)]
  have sh1 : ∀ j, j < cn - 1 → shI b j < cn ∧ shI b j ≠ b := by
    intro j hj; unfold shI; split <;> omega
  -- from an old keeper of the class other than p to a new one of the law
  have fwd : ∀ k, k < cn → ¬ k = p → ∃ j, j < cn - 1 ∧ S k = R' j ∧ wf k = z' (36 + 2 * j + 1) := by
    intro k hk hkp
    obtain ⟨j, j1, j2, j3⟩ := hcr k hk
    have hjn : ¬ j = b := fun q => hkp (inj k p hk p1 (by rw [j2, q, p2]))
    obtain ⟨i, i1, i2⟩ : ∃ i, i < cn - 1 ∧ shI b i = j := by
      by_cases g : j < b
      · exact ⟨j, by omega, if_pos g⟩
      · exact ⟨j - 1, by omega, (if_neg (by omega)).trans (by omega)⟩
    exact ⟨i, i1, by rw [dR, i2]; exact j2, by rw [(hz i i1).2, i2]; exact j3⟩
  -- and back
  have bwd : ∀ j, j < cn - 1 → ∃ k, k < cn ∧ ¬ k = p ∧ S k = R' j := by
    intro j hj
    obtain ⟨a1, a2⟩ := sh1 j hj
    obtain ⟨k, k1, k2⟩ := hrc (shI b j) a1
    exact ⟨k, k1, fun q => a2 (hjb _ a1 (by rw [← q]; exact k2)), by rw [dR]; exact k2⟩
  refine ⟨S', R', fun k hk => ?_, fun j hj => ?_, fun j hj => ?_, fun a c ha hc2 hac => ?_, fun a c hac hc2 => ?_, fun k hk => ?_, fun j hj => ?_⟩
  · rcases Nat.lt_or_ge k p with g | g
    · rw [tA k g, (sA k g).1]; exact hS k (by omega)
    · rw [tC k g, (sC k g hk).1]; exact hS (k + 1) (by omega)
  · rw [dR, (hz j hj).1]; exact hR _ (sh1 j hj).1
  · rw [(hz j hj).2]; exact hw _ (sh1 j hj).1
  · rw [dR, dR] at hac
    have q := hd _ _ (sh1 a ha).1 (sh1 c hc2).1 hac
    unfold shI at q
    split at q <;> split at q <;> omega
  · rcases Nat.lt_or_ge a p with g | g
    · rw [tA a g]
      rcases Nat.lt_or_ge c p with g2 | g2
      · rw [tA c g2]; exact hs a c hac (by omega)
      · rw [tC c g2]; exact hs a (c + 1) (by omega) (by omega)
    · rw [tC a g, tC c (by omega)]; exact hs (a + 1) (c + 1) (by omega) (by omega)
  · rcases Nat.lt_or_ge k p with g | g
    · obtain ⟨j, j1, j2, j3⟩ := fwd k (by omega) (by omega)
      exact ⟨j, j1, by rw [tA k g]; exact j2, by rw [(sA k g).2]; exact j3⟩
    · obtain ⟨j, j1, j2, j3⟩ := fwd (k + 1) (by omega) (by omega)
      exact ⟨j, j1, by rw [tC k g]; exact j2, by rw [(sC k g hk).2]; exact j3⟩
  · obtain ⟨k, k1, k2, k3⟩ := bwd j hj
    rcases Nat.lt_or_ge k p with g | g
    · exact ⟨k, by omega, by rw [tA k g]; exact k3⟩
    · exact ⟨k - 1, by omega, by rw [tC (k - 1) (by omega), show k - 1 + 1 = k by omega]; exact k3⟩

/-! PURE PART: coming bells -/
def DB (z : RI) (D : Nat → Nat) (B : Nat → Bool) : Prop := ∀ k, k < 4 → D k < 720 ∧ z (8 + 7 * k) = nI (D k) ∧ z (8 + 7 * k + 5) = (if B k = true then 1 else 0)
def hN (D : Nat → Nat) (k : Nat) : Nat := 60 - D k % 60
def Hc (D : Nat → Nat) (B : Nat → Bool) (c k : Nat) : Bool := B k && decide (hN D k = c)
/-- the q-th face of those that fit; how many fit -/
def cI (F : Nat → Bool) : Nat → Nat → Nat → Option Nat
  | 0, _, _ => none
  | n + 1, k, q => if F k = true then (if q = 0 then some k else cI F n (k + 1) (q - 1)) else cI F n (k + 1) q
def cM4 (F : Nat → Bool) : Nat → Nat → Nat
  | 0, _ => 0
  | n + 1, k => (if F k = true then 1 else 0) + cM4 F n (k + 1)
def oI (G : Nat → Nat → Bool) : Nat → Nat → Nat → Option (Nat × Nat)
  | 0, _, _ => none
  | n + 1, c, q => match cI (G c) 4 0 q with
    | some k => some (c, k)
    | none => oI G n (c + 1) (q - cM4 (G c) 4 0)
def oT (G : Nat → Nat → Bool) : Nat → Nat → Nat
  | 0, _ => 0
  | n + 1, c => cM4 (G c) 4 0 + oT G n (c + 1)
theorem cI_some {F : Nat → Bool} : ∀ (n k q j : Nat), cI F n k q = some j → k ≤ j ∧ j < k + n ∧ F j = true ∧ q < cM4 F n k := by
  intro n
  induction n with
  | zero => intro k q j h; exact absurd h (by simp [cI])
  | succ n ih =>
    intro k q j h
    by_cases g : F k = true
    · by_cases g2 : q = 0
      · have e : cI F (n + 1) k q = some k := (if_pos g).trans (if_pos g2)
        rw [e] at h
        cases h
        exact ⟨Nat.le_refl k, by omega, g, by show q < (if F k = true then 1 else 0) + cM4 F n (k + 1); rw [if_pos g]; omega⟩
      · have e : cI F (n + 1) k q = cI F n (k + 1) (q - 1) := (if_pos g).trans (if_neg g2)
        rw [e] at h
        obtain ⟨a, b, c, d⟩ := ih _ _ _ h
        exact ⟨by omega, by omega, c, by show q < (if F k = true then 1 else 0) + cM4 F n (k + 1); rw [if_pos g]; omega⟩
    · have e : cI F (n + 1) k q = cI F n (k + 1) q := if_neg g
      rw [e] at h
      obtain ⟨a, b, c, d⟩ := ih _ _ _ h
      exact ⟨by omega, by omega, c, by show q < (if F k = true then 1 else 0) + cM4 F n (k + 1); rw [if_neg g]; omega⟩
theorem cI_none {F : Nat → Bool} : ∀ (n k q : Nat), cI F n k q = none → cM4 F n k ≤ q := by
  intro n
  induction n with
  | zero => intro k q _; exact Nat.zero_le q
  | succ n ih =>
    intro k q h
    show (if F k = true then 1 else 0) + cM4 F n (k + 1) ≤ q
    by_cases g : F k = true
    · rw [if_pos g]
      by_cases g2 : q = 0
      · have e : cI F (n + 1) k q = some k := (if_pos g).trans (if_pos g2)
        rw [e] at h; cases h
      · have e : cI F (n + 1) k q = cI F n (k + 1) (q - 1) := (if_pos g).trans (if_neg g2)
        rw [e] at h
        have := ih _ _ h
        omega
    · have e : cI F (n + 1) k q = cI F n (k + 1) q := if_neg g
      rw [e] at h
      rw [if_neg g]
      have := ih _ _ h
      omega
theorem oI_s {G : Nat → Nat → Bool} {n c q k : Nat} (h : cI (G c) 4 0 q = some k) : oI G (n + 1) c q = some (c, k) := by
  show (match cI (G c) 4 0 q with | some k => some (c, k) | none => oI G n (c + 1) (q - cM4 (G c) 4 0)) = _
  rw [h]
theorem oI_n {G : Nat → Nat → Bool} {n c q : Nat} (h : cI (G c) 4 0 q = none) : oI G (n + 1) c q = oI G n (c + 1) (q - cM4 (G c) 4 0) := by
  show (match cI (G c) 4 0 q with | some k => some (c, k) | none => oI G n (c + 1) (q - cM4 (G c) 4 0)) = _
  rw [h]
theorem oI_some {G : Nat → Nat → Bool} : ∀ (n c q c' j : Nat), oI G n c q = some (c', j) → c ≤ c' ∧ c' < c + n ∧ j < 4 ∧ G c' j = true ∧ q < oT G n c := by
  intro n
  induction n with
  | zero => intro c q c' j h; exact absurd h (by simp [oI])
  | succ n ih =>
    intro c q c' j h
    show c ≤ c' ∧ c' < c + (n + 1) ∧ j < 4 ∧ G c' j = true ∧ q < cM4 (G c) 4 0 + oT G n (c + 1)
    cases e : cI (G c) 4 0 q with
    | some k =>
      rw [oI_s e] at h
      cases h
      obtain ⟨-, b, d, f⟩ := cI_some _ _ _ _ e
      exact ⟨Nat.le_refl c, by omega, by omega, d, by omega⟩
    | none =>
      rw [oI_n e] at h
      obtain ⟨a, b, d, f, i⟩ := ih _ _ _ _ h
      have := cI_none _ _ _ e
      exact ⟨by omega, by omega, d, f, by omega⟩
theorem oI_ex {G : Nat → Nat → Bool} : ∀ (n c q : Nat), q < oT G n c → ∃ p, oI G n c q = some p := by
  intro n
  induction n with
  | zero => intro c q h; exact absurd h (Nat.not_lt_zero q)
  | succ n ih =>
    intro c q h
    have h' : q < cM4 (G c) 4 0 + oT G n (c + 1) := h
    cases e : cI (G c) 4 0 q with
    | some k => exact ⟨_, oI_s e⟩
    | none =>
      have := cI_none _ _ _ e
      rw [oI_n e]
      exact ih _ _ (by omega)
theorem oI_out {G : Nat → Nat → Bool} {n c q : Nat} (h : oT G n c ≤ q) : oI G n c q = none := by
  cases e : oI G n c q with
  | none => rfl
  | some p => have := (oI_some n c q p.1 p.2 e).2.2.2.2; omega
/-- each bell comes once in a round -/
theorem oT_eq (D : Nat → Nat) (B : Nat → Bool) : ∀ (n c : Nat), oT (Hc D B) n c = (if B 0 = true ∧ c ≤ hN D 0 ∧ hN D 0 < c + n then 1 else 0) + ((if B 1 = true ∧ c ≤ hN D 1 ∧ hN D 1 < c + n then 1 else 0) + ((if B 2 = true ∧ c ≤ hN D 2 ∧ hN D 2 < c + n then 1 else 0) + (if B 3 = true ∧ c ≤ hN D 3 ∧ hN D 3 < c + n then 1 else 0))) := by
  intro n
  induction n with
  | zero =>
    intro c
    rw [if_neg (by omega), if_neg (by omega), if_neg (by omega), if_neg (by omega)]; rfl
  | succ n ih =>
    intro c
    have one : ∀ k, (if Hc D B c k = true then 1 else 0) + (if B k = true ∧ c + 1 ≤ hN D k ∧ hN D k < c + 1 + n then 1 else 0) = (if B k = true ∧ c ≤ hN D k ∧ hN D k < c + (n + 1) then 1 else 0) := by
      intro k
      unfold Hc
      cases hb : B k with
      | false => simp
      | true =>
        by_cases g : hN D k = c
        · rw [if_pos (by simp [g]), if_neg (by omega), if_pos ⟨rfl, by omega, by omega⟩]
        · rw [if_neg (by simp [g])]
          by_cases g2 : c + 1 ≤ hN D k ∧ hN D k < c + 1 + n
          · rw [if_pos ⟨rfl, g2⟩, if_pos ⟨rfl, by omega, by omega⟩]
          · rw [if_neg (fun q => g2 q.2), if_neg (fun q => g2 (by omega))]
    show cM4 (Hc D B c) 4 0 + oT (Hc D B) n (c + 1) = _
    rw [ih, ← one 0, ← one 1, ← one 2, ← one 3]
    show (if Hc D B c 0 = true then 1 else 0) + ((if Hc D B c 1 = true then 1 else 0) + ((if Hc D B c 2 = true then 1 else 0) + ((if Hc D B c 3 = true then 1 else 0) + 0))) + _ = _
    omega
def nbN (B : Nat → Bool) : Nat := (if B 0 = true then 1 else 0) + ((if B 1 = true then 1 else 0) + ((if B 2 = true then 1 else 0) + (if B 3 = true then 1 else 0)))
theorem oT_60 (D : Nat → Nat) (B : Nat → Bool) : oT (Hc D B) 60 1 = nbN B := by
  rw [oT_eq]
  have one : ∀ k, (if B k = true ∧ 1 ≤ hN D k ∧ hN D k < 1 + 60 then 1 else 0) = (if B k = true then 1 else 0) := by
    intro k
    have h : 1 ≤ hN D k ∧ hN D k < 1 + 60 := by unfold hN; omega
    by_cases g : B k = true
    · rw [if_pos ⟨g, h⟩, if_pos g]
    · rw [if_neg (fun q => g q.1), if_neg g]
  rw [one, one, one, one]; rfl
theorem nbN_le (B : Nat → Bool) : nbN B ≤ 4 := by unfold nbN; split <;> split <;> split <;> split <;> omega
theorem beL_eq {x : RI} {D : Nat → Nat} {B : Nat → Bool} (h : DB x D B) : beL x 4 8 0 = nI (nbN B) := by
  have one : ∀ k, k < 4 → ∀ (n q : Nat), beL x (n + 1) (8 + 7 * k) (nI q) = beL x n (8 + 7 * (k + 1)) (nI (q + (if B k = true then 1 else 0))) := by
    intro k hk n q
    have e := (h k hk).2.2
    by_cases g : B k = true
    · rw [if_pos g] at e ⊢
      exact (if_neg (by rw [e]; decide)).trans (by rw [nI_1]; rfl)
    · rw [if_neg g] at e ⊢
      exact (if_pos e).trans rfl
  have e0 : beL x 4 8 0 = beL x 3 (8 + 7 * 1) (nI (0 + (if B 0 = true then 1 else 0))) := one 0 (by decide) 3 0
  rw [e0, one 1 (by decide) 2, one 2 (by decide) 1, one 3 (by decide) 0]
  show nI _ = nI _
  exact congrArg nI (by unfold nbN; omega)
theorem toH_eq {D : Nat → Nat} {k : Nat} (h : D k < 720) : toH (nI (D k)) = nI (hN D k) := by
  unfold toH hN
  rw [za_r60 (by omega)]
  exact pk_sub (a := 60) (by omega)
/-- the class's search -/
theorem fbI_eq {x : RI} {D : Nat → Nat} {B : Nat → Bool} (h : DB x D B) {c pl : Nat} (hc : c ≤ 60) (hpl : pl < 100) : ∀ (n k q : Nat), k + n = 4 → q ≤ pl →
    (∀ j, cI (Hc D B c) n k (pl - q) = some j → (fbI x (nI c) (nI pl) n k (nI q)).1 = nI j) ∧ (cI (Hc D B c) n k (pl - q) = none → fbI x (nI c) (nI pl) n k (nI q) = (-1, nI (q + cM4 (Hc D B c) n k)) ∧ q + cM4 (Hc D B c) n k ≤ pl) := by
  intro n
  induction n with
  | zero => exact fun k q hk hq => ⟨fun j g => absurd g (by simp [cI]), fun _ => ⟨rfl, hq⟩⟩
  | succ n ih =>
    intro k q hk hq
    obtain ⟨d1, d2, d3⟩ := h k (by omega)
    by_cases g : Hc D B c k = true
    · have gb : B k = true ∧ hN D k = c := by unfold Hc at g; simpa using g
      have e1 : ¬ x (8 + 7 * k + 5) = 0 := by rw [d3, if_pos gb.1]; decide
      have e2 : toH (x (8 + 7 * k)) = nI c := by rw [d2, toH_eq d1, gb.2]
      have cc : cM4 (Hc D B c) (n + 1) k = 1 + cM4 (Hc D B c) n (k + 1) := by show (if Hc D B c k = true then 1 else 0) + _ = _; rw [if_pos g]
      by_cases g2 : q = pl
      · have ec : cI (Hc D B c) (n + 1) k (pl - q) = some k := (if_pos g).trans (if_pos (by omega))
        have ef : fbI x (nI c) (nI pl) (n + 1) k (nI q) = (nI k, nI q) := (if_neg e1).trans ((if_pos e2).trans (if_pos (by rw [g2])))
        rw [ec, ef]
        exact ⟨fun j z => by cases z; rfl, fun z => by cases z⟩
      · have ec : cI (Hc D B c) (n + 1) k (pl - q) = cI (Hc D B c) n (k + 1) (pl - (q + 1)) := (if_pos g).trans ((if_neg (by omega)).trans (by rw [Nat.sub_sub]))
        have ef : fbI x (nI c) (nI pl) (n + 1) k (nI q) = fbI x (nI c) (nI pl) n (k + 1) (nI (q + 1)) := (if_neg e1).trans ((if_pos e2).trans ((if_neg (fun z => g2 ((nI_eq (by omega) (by omega)).mp z))).trans (by rw [nI_1])))
        obtain ⟨a, b⟩ := ih (k + 1) (q + 1) (by omega) (by omega)
        rw [ec, ef, cc, show q + (1 + cM4 (Hc D B c) n (k + 1)) = q + 1 + cM4 (Hc D B c) n (k + 1) by omega]
        exact ⟨a, b⟩
    · have ec : cI (Hc D B c) (n + 1) k (pl - q) = cI (Hc D B c) n (k + 1) (pl - q) := if_neg g
      have cc : cM4 (Hc D B c) (n + 1) k = cM4 (Hc D B c) n (k + 1) := by show (if Hc D B c k = true then 1 else 0) + _ = _; rw [if_neg g, Nat.zero_add]
      have ef : fbI x (nI c) (nI pl) (n + 1) k (nI q) = fbI x (nI c) (nI pl) n (k + 1) (nI q) := by
        by_cases gb : B k = true
        · have e1 : ¬ x (8 + 7 * k + 5) = 0 := by rw [d3, if_pos gb]; decide
          have gh : ¬ hN D k = c := fun z => g (by unfold Hc; simp [gb, z])
          have e2 : ¬ toH (x (8 + 7 * k)) = nI c := by
            rw [d2, toH_eq d1]
            exact fun z => gh ((nI_eq (by unfold hN; omega) (by omega)).mp z)
          exact (if_neg e1).trans (if_neg e2)
        · exact if_pos (by rw [d3, if_neg gb])
      obtain ⟨a, b⟩ := ih (k + 1) q (by omega) hq
      rw [ec, ef, cc]
      exact ⟨a, b⟩
theorem fbO_eq {x : RI} {D : Nat → Nat} {B : Nat → Bool} (h : DB x D B) {pl : Nat} (hpl : pl < 100) : ∀ (n c q : Nat), c + n = 61 → q ≤ pl → ∀ c' j, oI (Hc D B) n c (pl - q) = some (c', j) → fbO x (nI pl) n c (nI q) = nI j := by
  intro n
  induction n with
  | zero => intro c q _ _ c' j g; exact absurd g (by simp [oI])
  | succ n ih =>
    intro c q hc hq c' j g
    obtain ⟨a, b⟩ := fbI_eq h (c := c) (by omega) hpl 4 0 q (by omega) hq
    have def1 : fbO x (nI pl) (n + 1) c (nI q) = if (fbI x (nI c) (nI pl) 4 0 (nI q)).1 = -1 then fbO x (nI pl) n (c + 1) (fbI x (nI c) (nI pl) 4 0 (nI q)).2 else (fbI x (nI c) (nI pl) 4 0 (nI q)).1 := rfl
    cases e : cI (Hc D B c) 4 0 (pl - q) with
    | some k =>
      rw [oI_s e] at g
      cases g
      have hk := (cI_some _ _ _ _ e).2.1
      rw [def1, a j e, if_neg (fun z => nI_pos (n := j) (by omega) (by rw [z]; decide))]
    | none =>
      rw [oI_n e] at g
      obtain ⟨b1, b2⟩ := b e
      rw [def1, b1, if_pos rfl]
      refine ih (c + 1) _ (by omega) b2 c' j ?_
      rw [← Nat.sub_sub]; exact g
/-- the reference's -/
def ansM (z : RI) (b : Int32) (j mi : Nat) : Int32 := if b = 0 then nI j else if b = 1 then nI mi else strM (jrem (z (8 + 7 * j) + nI mi) 720)
theorem str_hit {z : RI} {D : Nat → Nat} {B : Nat → Bool} (h : DB z D B) {c r mi k : Nat} (hk : k < 4) (hmi : mi = 60 * r + c) (h1 : 1 ≤ c) (hc : c ≤ 60) (hr : r < 24) : strM (jrem (z (8 + 7 * k) + nI mi) 720) ≤ 0 ↔ ¬ hN D k = c := by
  obtain ⟨d1, d2, -⟩ := h k hk
  have q : jrem (z (8 + 7 * k) + nI mi) 720 = nI ((D k + mi) % 720) := by rw [d2, nI_add]; exact za_r720 (by omega)
  have hl : (D k + mi) % 720 < 720 := Nat.mod_lt _ (by decide)
  rw [q, za_strM hl]
  by_cases g : (D k + mi) % 720 % 60 = 0
  · rw [if_pos g, za_strC hl]
    have p1 := stN_pos ((D k + mi) % 720)
    have p2 : stN ((D k + mi) % 720) < 1000 := by unfold stN; split <;> omega
    refine ⟨fun z => absurd z (nI_nle p1 (by omega)), fun z => absurd ?_ z⟩
    unfold hN; omega
  · rw [if_neg g]
    refine ⟨fun _ e => g ?_, fun _ => by decide⟩
    unfold hN at e; omega
theorem cmI_eq {z : RI} {D : Nat → Nat} {B : Nat → Bool} (h : DB z D B) {b : Int32} {c r mi : Nat} (hmi : mi = 60 * r + c) (h1 : 1 ≤ c) (hc : c ≤ 60) (hr : r < 24) : ∀ (n k q : Nat), k + n = 4 → q < 2 ^ 31 →
    (∀ j, cI (Hc D B c) n k q = some j → cmI z b (nI mi) n (8 + 7 * k) k (nI q) = (true, ansM z b j mi)) ∧ (cI (Hc D B c) n k q = none → cmI z b (nI mi) n (8 + 7 * k) k (nI q) = (false, nI (q - cM4 (Hc D B c) n k))) := by
  intro n
  induction n with
  | zero => exact fun k q hk hq => ⟨fun j g => absurd g (by simp [cI]), fun _ => rfl⟩
  | succ n ih =>
    intro k q hk hq
    obtain ⟨d1, d2, d3⟩ := h k (by omega)
    have hh := str_hit h (k := k) (by omega) hmi h1 hc hr
    have e7 : 8 + 7 * k + 7 = 8 + 7 * (k + 1) := by omega
    by_cases g : Hc D B c k = true
    · have gb : B k = true ∧ hN D k = c := by unfold Hc at g; simpa using g
      have e1 : z (8 + 7 * k + 5) = 1 := by rw [d3, if_pos gb.1]
      have e2 : ¬ strM (jrem (z (8 + 7 * k) + nI mi) 720) ≤ 0 := fun w => (hh.mp w) gb.2
      have cc : cM4 (Hc D B c) (n + 1) k = 1 + cM4 (Hc D B c) n (k + 1) := by show (if Hc D B c k = true then 1 else 0) + _ = _; rw [if_pos g]
      by_cases g2 : q = 0
      · subst g2
        have ec : cI (Hc D B c) (n + 1) k 0 = some k := (if_pos g).trans (if_pos rfl)
        have ef : cmI z b (nI mi) (n + 1) (8 + 7 * k) k (nI 0) = (true, ansM z b k mi) := (if_pos e1).trans ((if_neg e2).trans (if_pos rfl))
        rw [ec, ef]
        exact ⟨fun j w => by cases w; rfl, fun w => by cases w⟩
      · have ec : cI (Hc D B c) (n + 1) k q = cI (Hc D B c) n (k + 1) (q - 1) := (if_pos g).trans (if_neg g2)
        have ef : cmI z b (nI mi) (n + 1) (8 + 7 * k) k (nI q) = cmI z b (nI mi) n (8 + 7 * (k + 1)) (k + 1) (nI (q - 1)) := by
          have w1 : nI q + -1 = nI (q - 1) := sb_m1 (by omega)
          rw [← e7, ← w1]
          exact (if_pos e1).trans ((if_neg e2).trans (if_neg (fun w => g2 ((nI_eq (b := 0) hq (by decide)).mp w))))
        obtain ⟨a, b2⟩ := ih (k + 1) (q - 1) (by omega) (by omega)
        rw [ec, ef, cc, show q - (1 + cM4 (Hc D B c) n (k + 1)) = q - 1 - cM4 (Hc D B c) n (k + 1) by omega]
        exact ⟨a, b2⟩
    · have ec : cI (Hc D B c) (n + 1) k q = cI (Hc D B c) n (k + 1) q := if_neg g
      have cc : cM4 (Hc D B c) (n + 1) k = cM4 (Hc D B c) n (k + 1) := by show (if Hc D B c k = true then 1 else 0) + _ = _; rw [if_neg g, Nat.zero_add]
      have ef : cmI z b (nI mi) (n + 1) (8 + 7 * k) k (nI q) = cmI z b (nI mi) n (8 + 7 * (k + 1)) (k + 1) (nI q) := by
        rw [← e7]
        by_cases gb : B k = true
        · have gh : ¬ hN D k = c := fun w => g (by unfold Hc; simp [gb, w])
          exact (if_pos (by rw [d3, if_pos gb])).trans (if_pos (hh.mpr gh))
        · exact if_neg (by rw [d3, if_neg gb]; decide)
      obtain ⟨a, b2⟩ := ih (k + 1) q (by omega) hq
      rw [ec, ef, cc]
      exact ⟨a, b2⟩
theorem cm_round {z : RI} {D : Nat → Nat} {B : Nat → Bool} (h : DB z D B) {b : Int32} {r N : Nat} (hr : r < 24) : ∀ (n c q : Nat), c + n = 61 → 1 ≤ c → q < 2 ^ 31 →
    (∀ c' j, oI (Hc D B) n c q = some (c', j) → cmO z b (n + N) (60 * r + c) (nI q) = ansM z b j (60 * r + c')) ∧ (oI (Hc D B) n c q = none → cmO z b (n + N) (60 * r + c) (nI q) = cmO z b N (60 * r + 61) (nI (q - oT (Hc D B) n c))) := by
  intro n
  induction n with
  | zero =>
    intro c q hc h1 hq
    refine ⟨fun c' j g => absurd g (by simp [oI]), fun _ => ?_⟩
    rw [Nat.zero_add, show c = 61 by omega]; rfl
  | succ n ih =>
    intro c q hc h1 hq
    obtain ⟨a, b2⟩ := cmI_eq h (b := b) (c := c) (r := r) rfl h1 (by omega) hr 4 0 q (by omega) hq
    have def1 : cmO z b (n + N + 1) (60 * r + c) (nI q) = if (cmI z b (nI (60 * r + c)) 4 8 0 (nI q)).1 = true then (cmI z b (nI (60 * r + c)) 4 8 0 (nI q)).2 else cmO z b (n + N) (60 * r + c + 1) (cmI z b (nI (60 * r + c)) 4 8 0 (nI q)).2 := rfl
    rw [show n + 1 + N = n + N + 1 by omega, def1]
    cases e : cI (Hc D B c) 4 0 q with
    | some k =>
      have a1 : cmI z b (nI (60 * r + c)) 4 8 0 (nI q) = (true, ansM z b k (60 * r + c)) := a k e
      rw [oI_s e, a1, if_pos rfl]
      exact ⟨fun c' j w => by cases w; rfl, fun w => by cases w⟩
    | none =>
      have a1 : cmI z b (nI (60 * r + c)) 4 8 0 (nI q) = (false, nI (q - cM4 (Hc D B c) 4 0)) := b2 e
      rw [oI_n e, a1, if_neg (show ¬ ((false, nI (q - cM4 (Hc D B c) 4 0)) : Bool × Int32).1 = true from Bool.false_ne_true)]
      obtain ⟨p1, p2⟩ := ih (c + 1) (q - cM4 (Hc D B c) 4 0) (by omega) (by omega) (by omega)
      refine ⟨p1, fun w => ?_⟩
      rw [show q - oT (Hc D B) (n + 1) c = q - cM4 (Hc D B c) 4 0 - oT (Hc D B) n (c + 1) from (Nat.sub_sub _ _ _).symm]
      exact p2 w
theorem cm_all {z : RI} {D : Nat → Nat} {B : Nat → Bool} (h : DB z D B) {b : Int32} {pl c' j : Nat} (hj : oI (Hc D B) 60 1 pl = some (c', j)) : ∀ (k r M : Nat), k < M → r + M ≤ 24 → cmO z b (60 * M) (60 * r + 1) (nI (k * nbN B + pl)) = ansM z b j (60 * (r + k) + c') := by
  have hn := nbN_le B
  have hp : pl < nbN B := by rw [← oT_60 D B]; exact (oI_some _ _ _ _ _ hj).2.2.2.2
  intro k
  induction k with
  | zero =>
    intro r M hM hr
    obtain ⟨a, -⟩ := cm_round h (b := b) (r := r) (N := 60 * (M - 1)) (by omega) 60 1 pl (by omega) (by omega) (by omega)
    rw [show 60 * M = 60 + 60 * (M - 1) by omega, Nat.zero_mul, Nat.zero_add, Nat.add_zero]
    exact a c' j hj
  | succ k ih =>
    intro r M hM hr
    have hkn : k * nbN B ≤ 24 * 4 := Nat.mul_le_mul (by omega) hn
    have e1 : (k + 1) * nbN B + pl = nbN B + (k * nbN B + pl) := by rw [Nat.succ_mul]; omega
    obtain ⟨-, b2⟩ := cm_round h (b := b) (r := r) (N := 60 * (M - 1)) (by omega) 60 1 ((k + 1) * nbN B + pl) (by omega) (by omega) (by omega)
    have o : oI (Hc D B) 60 1 ((k + 1) * nbN B + pl) = none := oI_out (by rw [oT_60]; omega)
    rw [show 60 * M = 60 + 60 * (M - 1) by omega, b2 o, oT_60, show (k + 1) * nbN B + pl - nbN B = k * nbN B + pl by omega, show 60 * r + 61 = 60 * (r + 1) + 1 by omega, ih (r + 1) (M - 1) (by omega) (by omega), show r + 1 + k = r + (k + 1) by omega]
theorem cm_zero {z : RI} {D : Nat → Nat} {B : Nat → Bool} (h : DB z D B) {b : Int32} (h0 : nbN B = 0) : ∀ (M r q : Nat), r + M ≤ 24 → q < 2 ^ 31 → cmO z b (60 * M) (60 * r + 1) (nI q) = -1000 := by
  intro M
  induction M with
  | zero => intro r q _ _; rfl
  | succ M ih =>
    intro r q hr hq
    obtain ⟨-, b2⟩ := cm_round h (b := b) (r := r) (N := 60 * M) (by omega) 60 1 q (by omega) (by omega) hq
    have o : oI (Hc D B) 60 1 q = none := oI_out (by rw [oT_60]; omega)
    rw [show 60 * (M + 1) = 60 + 60 * M by omega, b2 o, oT_60, h0, Nat.sub_zero, show 60 * r + 61 = 60 * (r + 1) + 1 by omega]
    exact ih (r + 1) q (by omega) hq
theorem coming_eq {x z : RI} {D : Nat → Nat} {B : Nat → Bool} (hx : DB x D B) (hz : DB z D B) (q : CS) (r : MS) (hq : cT q 0 = x) (hr : mZ r = z) (a b : Int32) (nf : Nat) (hnf : 1 + nf = 1441) : kComing q a b = mComing r a b nf := by
  have hnf2 : nf = 60 * 24 := by omega
  subst hnf2
  unfold kComing mComing
  rw [hq, hr]
  by_cases c1 : isw a 0 23 = 0
  · rw [if_pos c1, if_pos c1]
  rw [if_neg c1, if_neg c1]
  by_cases c2 : isw b 0 2 = 0
  · rw [if_pos c2, if_pos c2]
  rw [if_neg c2, if_neg c2]
  obtain ⟨p, hp, rfl⟩ := isw_nI (n := 23) (by decide) c1
  have hn := nbN_le B
  rw [beL_eq hx]
  by_cases c3 : nbN B = 0
  · rw [c3, if_pos (by decide)]
    exact (cm_zero hz c3 24 0 p (by omega) (by omega)).symm
  · rw [if_neg (nI_ne0 (by omega) (by omega)), za_rem (by omega) (by omega) (by omega)]
    have hpl : p % nbN B < nbN B := Nat.mod_lt _ (by omega)
    obtain ⟨⟨c', j⟩, hj⟩ := oI_ex 60 1 (p % nbN B) (by rw [oT_60 D B]; exact hpl)
    obtain ⟨o1, o2, o3, o4, -⟩ := oI_some _ _ _ _ _ hj
    have gb : B j = true ∧ hN D j = c' := by unfold Hc at o4; simpa using o4
    have ef : fbO x (nI (p % nbN B)) 60 1 0 = nI j := fbO_eq hx (pl := p % nbN B) (by omega) 60 1 0 (by omega) (by omega) c' j (by rw [Nat.sub_zero]; exact hj)
    have hk : p / nbN B < 24 := Nat.lt_of_le_of_lt (Nat.div_le_self _ _) (by omega)
    have em := cm_all hz (b := b) hj (p / nbN B) 0 24 hk (by omega)
    have ep : p / nbN B * nbN B + p % nbN B = p := by rw [Nat.mul_comm]; exact Nat.div_add_mod p (nbN B)
    rw [ep] at em
    rw [ef]
    refine Eq.trans ?_ em.symm
    obtain ⟨d1, d2, -⟩ := hx j o3
    obtain ⟨-, d3, -⟩ := hz j o3
    have tj : (nI j).toNatClampNeg = j := nI_clamp (by omega)
    have mi : toH (nI (D j)) + 60 * (nI p / nI (nbN B)) = nI (60 * (0 + p / nbN B) + c') := by
      rw [toH_eq d1, gb.2, pk_div (by omega) (by omega) (by omega), show (60 : Int32) = nI 60 from rfl, pk_mul, nI_add]
      exact congrArg nI (by omega)
    unfold kComP ansM
    rw [hq, beL_eq hx, tj, if_neg (show ¬ isw (nI j) 0 3 = 0 from by rw [show isw (nI j) 0 3 = 1 from isw_in (a := 0) (b := 3) (by omega) (by omega) (by decide)]; decide)]
    by_cases b0 : b = 0
    · rw [if_pos b0, if_pos b0]
    · rw [if_neg b0, if_neg b0, d2, d3, mi]
      by_cases b1 : b = 1
      · rw [if_pos b1, if_pos b1]
      · rw [if_neg b1, if_neg b1]
        have w : jrem (nI (D j) + nI (60 * (0 + p / nbN B) + c')) 720 = nI ((D j + (60 * (0 + p / nbN B) + c')) % 720) := by rw [nI_add]; exact za_r720 (by omega)
        rw [w, za_strM (Nat.mod_lt _ (by decide)), if_pos]
        have := gb.2
        unfold hN at this
        omega

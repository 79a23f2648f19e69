/-! PURE PART: coming bells -/
/-! PURE PART: coming bells -/
def DB (z : RI) (D : Nat → Nat) (B : Nat → Bool) : Prop := ∀ k, k < 4 → D k < 720 ∧ z (8 + 7 * k) = nI (D k) ∧ z (8 + 7 * k + 5) = (if B k = true then 1 else 0)
def hN (D : Nat → Nat) (k : Nat) : Nat := 60 - D k % 60
def Hc (D : Nat → Nat) (B : Nat → Bool) (c k : Nat) : Bool := B k && decide (hN D k = c)
/-- the q-th face of those that fit; how many fit -/
def cI (F : Nat → Bool) : Nat → Nat → Nat → Option Nat
  | 0, _, _ => none
  | n + 1, k, q => if F k = true then (if q = 0 then some k else cI F n (k + 1) (q - 1)) else cI F n (k + 1) q
def cM4 (F : Nat → Bool) : Nat → Nat → Nat
  | 0, _ => 0
  | n + 1, k => (if F k = true then 1 else 0) + cM4 F n (k + 1)
def oI (G : Nat → Nat → Bool) : Nat → Nat → Nat → Option (Nat × Nat)
  | 0, _, _ => none
  | n + 1, c, q => match cI (G c) 4 0 q with
    | some k => some (c, k)
    | none => oI G n (c + 1) (q - cM4 (G c) 4 0)
def oT (G : Nat → Nat → Bool) : Nat → Nat → Nat
  | 0, _ => 0
  | n + 1, c => cM4 (G c) 4 0 + oT G n (c + 1)
theorem cI_some {F : Nat → Bool} : ∀ (n k q j : Nat), cI F n k q = some j → k ≤ j ∧ j < k + n ∧ F j = true ∧ q < cM4 F n k := by
  intro n
  induction n with
  | zero => intro k q j h; exact absurd h (by simp [cI])
  | succ n ih =>
    intro k q j h
    by_cases g : F k = true
    · by_cases g2 : q = 0
      · have e : cI F (n + 1) k q = some k := (if_pos g).trans (if_pos g2)
        rw [e] at h
        cases h
        exact ⟨Nat.le_refl k, by omega, g, by show q < (if F k = true then 1 else 0) + cM4 F n (k + 1); rw [if_pos g]; omega⟩
      · have e : cI F (n + 1) k q = cI F n (k + 1) (q - 1) := (if_pos g).trans (if_neg g2)
        rw [e] at h
        obtain ⟨a, b, c, d⟩ := ih _ _ _ h
        exact ⟨by omega, by omega, c, by show q < (if F k = true then 1 else 0) + cM4 F n (k + 1); rw [if_pos g]; omega⟩
    · have e : cI F (n + 1) k q = cI F n (k + 1) q := if_neg g
      rw [e] at h
      obtain ⟨a, b, c, d⟩ := ih _ _ _ h
      exact ⟨by omega, by omega, c, by show q < (if F k = true then 1 else 0) + cM4 F n (k + 1); rw [if_neg g]; omega⟩
theorem cI_none {F : Nat → Bool} : ∀ (n k q : Nat), cI F n k q = none → cM4 F n k ≤ q := by
  intro n
  induction n with
  | zero => intro k q _; exact Nat.zero_le q
  | succ n ih =>
    intro k q h
    show (if F k = true then 1 else 0) + cM4 F n (k + 1) ≤ q
    by_cases g : F k = true
    · rw [if_pos g]
      by_cases g2 : q = 0
      · have e : cI F (n + 1) k q = some k := (if_pos g).trans (if_pos g2)
        rw [e] at h; cases h
      · have e : cI F (n + 1) k q = cI F n (k + 1) (q - 1) := (if_pos g).trans (if_neg g2)
        rw [e] at h
        have := ih _ _ h
        omega
    · have e : cI F (n + 1) k q = cI F n (k + 1) q := if_neg g
      rw [e] at h
      rw [if_neg g]
      have := ih _ _ h
      omega
theorem oI_s {G : Nat → Nat → Bool} {n c q k : Nat} (h : cI (G c) 4 0 q = some k) : oI G (n + 1) c q = some (c, k) := by
  show (match cI (G c) 4 0 q with | some k => some (c, k) | none => oI G n (c + 1) (q - cM4 (G c) 4 0)) = _
  rw [h]
theorem oI_n {G : Nat → Nat → Bool} {n c q : Nat} (h : cI (G c) 4 0 q = none) : oI G (n + 1) c q = oI G n (c + 1) (q - cM4 (G c) 4 0) := by
  show (match cI (G c) 4 0 q with | some k => some (c, k) | none => oI G n (c + 1) (q - cM4 (G c) 4 0)) = _
  rw [h]
theorem oI_some {G : Nat → Nat → Bool} : ∀ (n c q c' j : Nat), oI G n c q = some (c', j) → c ≤ c' ∧ c' < c + n ∧ j < 4 ∧ G c' j = true ∧ q < oT G n c := by
  intro n
  induction n with
  | zero => intro c q c' j h; exact absurd h (by simp [oI])
  | succ n ih =>
    intro c q c' j h
    show c ≤ c' ∧ c' < c + (n + 1) ∧ j < 4 ∧ G c' j = true ∧ q < cM4 (G c) 4 0 + oT G n (c + 1)
    cases e : cI (G c) 4 0 q with
    | some k =>
      rw [oI_s e] at h
      cases h
      obtain ⟨-, b, d, f⟩ := cI_some _ _ _ _ e
      exact ⟨Nat.le_refl c, by omega, by omega, d, by omega⟩
    | none =>
      rw [oI_n e] at h
      obtain ⟨a, b, d, f, i⟩ := ih _ _ _ _ h
      have := cI_none _ _ _ e
      exact ⟨by omega, by omega, d, f, by omega⟩
theorem oI_ex {G : Nat → Nat → Bool} : ∀ (n c q : Nat), q < oT G n c → ∃ p, oI G n c q = some p := by
  intro n
  induction n with
  | zero => intro c q h; exact absurd h (Nat.not_lt_zero q)
  | succ n ih =>
    intro c q h
    have h' : q < cM4 (G c) 4 0 + oT G n (c + 1) := h
    cases e : cI (G c) 4 0 q with
    | some k => exact ⟨_, oI_s e⟩
    | none =>
      have := cI_none _ _ _ e
      rw [oI_n e]
      exact ih _ _ (by omega)
theorem oI_out {G : Nat → Nat → Bool} {n c q : Nat} (h : oT G n c ≤ q) : oI G n c q = none := by
  cases e : oI G n c q with
  | none => rfl
  | some p => have := (oI_some n c q p.1 p.2 e).2.2.2.2; omega
/-- each bell comes once in a round -/
theorem oT_eq (D : Nat → Nat) (B : Nat → Bool) : ∀ (n c : Nat), oT (Hc D B) n c = (if B 0 = true ∧ c ≤ hN D 0 ∧ hN D 0 < c + n then 1 else 0) + ((if B 1 = true ∧ c ≤ hN D 1 ∧ hN D 1 < c + n then 1 else 0) + ((if B 2 = true ∧ c ≤ hN D 2 ∧ hN D 2 < c + n then 1 else 0) + (if B 3 = true ∧ c ≤ hN D 3 ∧ hN D 3 < c + n then 1 else 0))) := by
  intro n
  induction n with
  | zero =>
    intro c
    rw [if_neg (by omega), if_neg (by omega), if_neg (by omega), if_neg (by omega)]; rfl
  | succ n ih =>
    intro c
    have one : ∀ k, (if Hc D B c k = true then 1 else 0) + (if B k = true ∧ c + 1 ≤ hN D k ∧ hN D k < c + 1 + n then 1 else 0) = (if B k = true ∧ c ≤ hN D k ∧ hN D k < c + (n + 1) then 1 else 0) := by
      intro k
      unfold Hc
      cases hb : B k with
      | false => simp
      | true =>
        by_cases g : hN D k = c
        · rw [if_pos (by simp [g]), if_neg (by omega), if_pos ⟨rfl, by omega, by omega⟩]
        · rw [if_neg (by simp [g])]
          by_cases g2 : c + 1 ≤ hN D k ∧ hN D k < c + 1 + n
          · rw [if_pos ⟨rfl, g2⟩, if_pos ⟨rfl, by omega, by omega⟩]
          · rw [if_neg (fun q => g2 q.2), if_neg (fun q => g2 (by omega))]
    show cM4 (Hc D B c) 4 0 + oT (Hc D B) n (c + 1) = _
    rw [ih, ← one 0, ← one 1, ← one 2, ← one 3]
    show (if Hc D B c 0 = true then 1 else 0) + ((if Hc D B c 1 = true then 1 else 0) + ((if Hc D B c 2 = true then 1 else 0) + ((if Hc D B c 3 = true then 1 else 0) + 0))) + _ = _
    omega
def nbN (B : Nat → Bool) : Nat := (if B 0 = true then 1 else 0) + ((if B 1 = true then 1 else 0) + ((if B 2 = true then 1 else 0) + (if B 3 = true then 1 else 0)))
theorem oT_60 (D : Nat → Nat) (B : Nat → Bool) : oT (Hc D B) 60 1 = nbN B := by
  rw [oT_eq]
  have one : ∀ k, (if B k = true ∧ 1 ≤ hN D k ∧ hN D k < 1 + 60 then 1 else 0) = (if B k = true then 1 else 0) := by
    intro k
    have h : 1 ≤ hN D k ∧ hN D k < 1 + 60 := by unfold hN; omega
    by_cases g : B k = true
    · rw [if_pos ⟨g, h⟩, if_pos g]
    · rw [if_neg (fun q => g q.1), if_neg g]
  rw [one, one, one, one]; rfl
theorem nbN_le (B : Nat → Bool) : nbN B ≤ 4 := by unfold nbN; split <;> split <;> split <;> split <;> omega
theorem beL_eq {x : RI} {D : Nat → Nat} {B : Nat → Bool} (h : DB x D B) : beL x 4 8 0 = nI (nbN B) := by
  have one : ∀ k, k < 4 → ∀ (n q : Nat), beL x (n + 1) (8 + 7 * k) (nI q) = beL x n (8 + 7 * (k + 1)) (nI (q + (if B k = true then 1 else 0))) := by
    intro k hk n q
    have e := (h k hk).2.2
    by_cases g : B k = true
    · rw [if_pos g] at e ⊢
      exact (if_neg (by rw [e]; decide)).trans (by rw [nI_1]; rfl)
    · rw [if_neg g] at e ⊢
      exact (if_pos e).trans rfl
  have e0 : beL x 4 8 0 = beL x 3 (8 + 7 * 1) (nI (0 + (if B 0 = true then 1 else 0))) := one 0 (by decide) 3 0
  rw [e0, one 1 (by decide) 2, one 2 (by decide) 1, one 3 (by decide) 0]
  show nI _ = nI _
  exact congrArg nI (by unfold nbN; omega)
theorem toH_eq {D : Nat → Nat} {k : Nat} (h : D k < 720) : toH (nI (D k)) = nI (hN D k) := by
  unfold toH hN
  rw [za_r60 (by omega)]
  exact pk_sub (a := 60) (by omega)
/-- the class's search -/
theorem fbI_eq {x : RI} {D : Nat → Nat} {B : Nat → Bool} (h : DB x D B) {c pl : Nat} (hc : c ≤ 60) (hpl : pl < 100) : ∀ (n k q : Nat), k + n = 4 → q ≤ pl →
    (∀ j, cI (Hc D B c) n k (pl - q) = some j → (fbI x (nI c) (nI pl) n k (nI q)).1 = nI j) ∧ (cI (Hc D B c) n k (pl - q) = none → fbI x (nI c) (nI pl) n k (nI q) = (-1, nI (q + cM4 (Hc D B c) n k)) ∧ q + cM4 (Hc D B c) n k ≤ pl) := by
  intro n
  induction n with
  | zero => exact fun k q hk hq => ⟨fun j g => absurd g (by simp [cI]), fun _ => ⟨rfl, hq⟩⟩
  | succ n ih =>
    intro k q hk hq
    obtain ⟨d1, d2, d3⟩ := h k (by omega)
    by_cases g : Hc D B c k = true
    · have gb : B k = true ∧ hN D k = c := by unfold Hc at g; simpa using g
      have e1 : ¬ x (8 + 7 * k + 5) = 0 := by rw [d3, if_pos gb.1]; decide
      have e2 : toH (x (8 + 7 * k)) = nI c := by rw [d2, toH_eq d1, gb.2]
      have cc : cM4 (Hc D B c) (n + 1) k = 1 + cM4 (Hc D B c) n (k + 1) := by show (if Hc D B c k = true then 1 else 0) + _ = _; rw [if_pos g]
      by_cases g2 : q = pl
      · have ec : cI (Hc D B c) (n + 1) k (pl - q) = some k := (if_pos g).trans (if_pos (by omega))
        have ef : fbI x (nI c) (nI pl) (n + 1) k (nI q) = (nI k, nI q) := (if_neg e1).trans ((if_pos e2).trans (if_pos (by rw [g2])))
        rw [ec, ef]
        exact ⟨fun j z => by cases z; rfl, fun z => by cases z⟩
      · have ec : cI (Hc D B c) (n + 1) k (pl - q) = cI (Hc D B c) n (k + 1) (pl - (q + 1)) := (if_pos g).trans ((if_neg (by omega)).trans (by rw [Nat.sub_sub]))
        have ef : fbI x (nI c) (nI pl) (n + 1) k (nI q) = fbI x (nI c) (nI pl) n (k + 1) (nI (q + 1)) := (if_neg e1).trans ((if_pos e2).trans ((if_neg (fun z => g2 ((nI_eq (by omega) (by omega)).mp z))).trans (by rw [nI_1])))
        obtain ⟨a, b⟩ := ih (k + 1) (q + 1) (by omega) (by omega)
        rw [ec, ef, cc, show q + (1 + cM4 (Hc D B c) n (k + 1)) = q + 1 + cM4 (Hc D B c) n (k + 1) by omega]
        exact ⟨a, b⟩
    · have ec : cI (Hc D B c) (n + 1) k (pl - q) = cI (Hc D B c) n (k + 1) (pl - q) := if_neg g
      have cc : cM4 (Hc D B c) (n + 1) k = cM4 (Hc D B c) n (k + 1) := by show (if Hc D B c k = true then 1 else 0) + _ = _; rw [if_neg g, Nat.zero_add]
      have ef : fbI x (nI c) (nI pl) (n + 1) k (nI q) = fbI x (nI c) (nI pl) n (k + 1) (nI q) := by
        by_cases gb : B k = true
        · have e1 : ¬ x (8 + 7 * k + 5) = 0 := by rw [d3, if_pos gb]; decide
          have gh : ¬ hN D k = c := fun z => g (by unfold Hc; simp [gb, z])
          have e2 : ¬ toH (x (8 + 7 * k)) = nI c := by
            rw [d2, toH_eq d1]
            exact fun z => gh ((nI_eq (by unfold hN; omega) (by omega)).mp z)
          exact (if_neg e1).trans (if_neg e2)
        · exact if_pos (by rw [d3, if_neg gb])
      obtain ⟨a, b⟩ := ih (k + 1) q (by omega) hq
      rw [ec, ef, cc]
      exact ⟨a, b⟩
theorem fbO_eq {x : RI} {D : Nat → Nat} {B : Nat → Bool} (h : DB x D B) {pl : Nat} (hpl : pl < 100) : ∀ (n c q : Nat), c + n = 61 → q ≤ pl → ∀ c' j, oI (Hc D B) n c (pl - q) = some (c', j) → fbO x (nI pl) n c (nI q) = nI j := by
  intro n
  induction n with
  | zero => intro c q _ _ c' j g; exact absurd g (by simp [oI])
  | succ n ih =>
    intro c q hc hq c' j g
    obtain ⟨a, b⟩ := fbI_eq h (c := c) (by omega) hpl 4 0 q (by omega) hq
    have def1 : fbO x (nI pl) (n + 1) c (nI q) = if (fbI x (nI c) (nI pl) 4 0 (nI q)).1 = -1 then fbO x (nI pl) n (c + 1) (fbI x (nI c) (nI pl) 4 0 (nI q)).2 else (fbI x (nI c) (nI pl) 4 0 (nI q)).1 := rfl
    cases e : cI (Hc D B c) 4 0 (pl - q) with
    | some k =>
      rw [oI_s e] at g
      cases g
      have hk := (cI_some _ _ _ _ e).2.1
      rw [def1, a j e, if_neg (fun z => nI_pos (n := j) (by omega) (by rw [z]; decide))]
    | none =>
      rw [oI_n e] at g
      obtain ⟨b1, b2⟩ := b e
      rw [def1, b1, if_pos rfl]
      refine ih (c + 1) _ (by omega) b2 c' j ?_
      rw [← Nat.sub_sub]; exact g
/-- what the class answers of the p-th bell to come -/
theorem com_hit {x : RI} {D : Nat → Nat} {B : Nat → Bool} (hx : DB x D B) (q : CS) (hq : cT q 0 = x) {p c' j : Nat} (hp : p < 24) (hn0 : 0 < nbN B) (hj : oI (Hc D B) 60 1 (p % nbN B) = some (c', j)) :
    kComing q (nI p) 0 = nI j ∧ kComing q (nI p) 1 = nI (60 * (p / nbN B) + c') ∧ kComing q (nI p) 2 = strC (nI ((D j + (60 * (p / nbN B) + c')) % 720)) := by
  have hn := nbN_le B
  obtain ⟨o1, o2, o3, o4, -⟩ := oI_some _ _ _ _ _ hj
  have gb : B j = true ∧ hN D j = c' := by unfold Hc at o4; simpa using o4
  have hpl : p % nbN B < nbN B := Nat.mod_lt _ (by omega)
  have ef : fbO x (nI (p % nbN B)) 60 1 0 = nI j := fbO_eq hx (pl := p % nbN B) (by omega) 60 1 0 (by omega) (by omega) c' j (by rw [Nat.sub_zero]; exact hj)
  obtain ⟨d1, d2, -⟩ := hx j o3
  have hk : p / nbN B < 24 := Nat.lt_of_le_of_lt (Nat.div_le_self _ _) (by omega)
  have tj : (nI j).toNatClampNeg = j := nI_clamp (by omega)
  have mi : toH (nI (D j)) + 60 * (nI p / nI (nbN B)) = nI (60 * (p / nbN B) + c') := by
    rw [toH_eq d1, gb.2, pk_div (by omega) (by omega) (by omega), show (60 : Int32) = nI 60 from rfl, pk_mul, nI_add]
    exact congrArg nI (by omega)
  have key : ∀ b : Int32, ¬ isw b 0 2 = 0 → kComing q (nI p) b = if b = 0 then nI j else if b = 1 then nI (60 * (p / nbN B) + c') else strC (nI ((D j + (60 * (p / nbN B) + c')) % 720)) := by
    intro b hb
    unfold kComing
    rw [hq, if_neg (show ¬ isw (nI p) 0 23 = 0 from by rw [show isw (nI p) 0 23 = 1 from isw_in (a := 0) (b := 23) (by omega) (by omega) (by decide)]; decide), if_neg hb, beL_eq hx, if_neg (nI_ne0 (by omega) (by omega)), za_rem (by omega) (by omega) (by omega), ef]
    unfold kComP
    rw [hq, beL_eq hx, tj, if_neg (show ¬ isw (nI j) 0 3 = 0 from by rw [show isw (nI j) 0 3 = 1 from isw_in (a := 0) (b := 3) (by omega) (by omega) (by decide)]; decide), d2, mi, nI_add, za_r720 (by omega)]
  refine ⟨?_, ?_, ?_⟩
  · rw [key 0 (by decide)]; exact if_pos rfl
  · rw [key 1 (by decide)]; exact (if_neg (by decide)).trans (if_pos rfl)
  · rw [key 2 (by decide)]; exact (if_neg (by decide)).trans (if_neg (by decide))
theorem com_none {x : RI} {D : Nat → Nat} {B : Nat → Bool} (hx : DB x D B) (q : CS) (hq : cT q 0 = x) (h0 : nbN B = 0) : kComing q 0 0 = -1000 ∧ kComing q 23 2 = -1000 := by
  have e : beL (cT q 0) 4 8 0 = 0 := by rw [hq, beL_eq hx, h0]; rfl
  refine ⟨?_, ?_⟩
  · unfold kComing
    rw [if_neg (by decide), if_neg (by decide), if_pos e]
  · unfold kComing
    rw [if_neg (by decide), if_neg (by decide), if_pos e]
/-! the law's order: minute by minute, face by face -/
theorem cI_pc {F : Nat → Bool} : ∀ (n k j : Nat), k ≤ j → j < k + n → F j = true → cI F n k (cM4 F (j - k) k) = some j := by
  intro n
  induction n with
  | zero => intro k j h1 h2; omega
  | succ n ih =>
    intro k j h1 h2 hj
    by_cases e : j = k
    · rw [e, Nat.sub_self]
      rw [e] at hj
      exact (if_pos hj).trans (if_pos rfl)
    · have e1 : cM4 F (j - k) k = (if F k = true then 1 else 0) + cM4 F (j - (k + 1)) (k + 1) := by
        rw [show j - k = (j - (k + 1)) + 1 by omega]; rfl
      rw [e1]
      by_cases g : F k = true
      · rw [if_pos g]
        have e2 : cI F (n + 1) k (1 + cM4 F (j - (k + 1)) (k + 1)) = cI F n (k + 1) (cM4 F (j - (k + 1)) (k + 1)) := (if_pos g).trans ((if_neg (by omega)).trans (by rw [Nat.add_sub_cancel_left]))
        rw [e2]
        exact ih (k + 1) j (by omega) (by omega) hj
      · rw [if_neg g, Nat.zero_add]
        have e2 : cI F (n + 1) k (cM4 F (j - (k + 1)) (k + 1)) = cI F n (k + 1) (cM4 F (j - (k + 1)) (k + 1)) := if_neg g
        rw [e2]
        exact ih (k + 1) j (by omega) (by omega) hj
theorem cI_out {F : Nat → Bool} {n k q : Nat} (h : cM4 F n k ≤ q) : cI F n k q = none := by
  cases e : cI F n k q with
  | none => rfl
  | some j => have := (cI_some _ _ _ _ e).2.2.2; omega
theorem oI_pc {G : Nat → Nat → Bool} {c j : Nat} (hj4 : j < 4) (hj : G c j = true) : ∀ (n c0 : Nat), c0 ≤ c → c < c0 + n → oI G n c0 (oT G (c - c0) c0 + cM4 (G c) j 0) = some (c, j) := by
  intro n
  induction n with
  | zero => intro c0 h1 h2; omega
  | succ n ih =>
    intro c0 h1 h2
    by_cases e : c = c0
    · rw [← e, Nat.sub_self]
      have e1 : oT G 0 c + cM4 (G c) j 0 = cM4 (G c) (j - 0) 0 := Nat.zero_add _
      rw [e1]
      exact oI_s (cI_pc 4 0 j (Nat.zero_le _) (by omega) hj)
    · have e1 : oT G (c - c0) c0 = cM4 (G c0) 4 0 + oT G (c - (c0 + 1)) (c0 + 1) := by
        rw [show c - c0 = (c - (c0 + 1)) + 1 by omega]; rfl
      have e2 : oI G (n + 1) c0 (oT G (c - c0) c0 + cM4 (G c) j 0) = oI G n (c0 + 1) (oT G (c - c0) c0 + cM4 (G c) j 0 - cM4 (G c0) 4 0) := oI_n (cI_out (by omega))
      rw [e2, e1, show cM4 (G c0) 4 0 + oT G (c - (c0 + 1)) (c0 + 1) + cM4 (G c) j 0 - cM4 (G c0) 4 0 = oT G (c - (c0 + 1)) (c0 + 1) + cM4 (G c) j 0 by omega]
      exact ih (c0 + 1) (by omega) (by omega)
theorem cM4_s {F : Nat → Bool} : ∀ (n k : Nat), cM4 F (n + 1) k = cM4 F n k + (if F (k + n) = true then 1 else 0) := by
  intro n
  induction n with
  | zero => intro k; show (if F k = true then 1 else 0) + 0 = 0 + (if F (k + 0) = true then 1 else 0); simp only [Nat.add_zero, Nat.zero_add]
  | succ n ih =>
    intro k
    show (if F k = true then 1 else 0) + cM4 F (n + 1) (k + 1) = (if F k = true then 1 else 0) + cM4 F n (k + 1) + _
    rw [ih (k + 1), show k + 1 + n = k + (n + 1) by omega]; omega
theorem oT_s {G : Nat → Nat → Bool} : ∀ (n c : Nat), oT G (n + 1) c = oT G n c + cM4 (G (c + n)) 4 0 := by
  intro n
  induction n with
  | zero => intro c; show cM4 (G c) 4 0 + 0 = 0 + _; rw [Nat.add_zero, Nat.zero_add, Nat.add_zero]
  | succ n ih =>
    intro c
    show cM4 (G c) 4 0 + oT G (n + 1) (c + 1) = cM4 (G c) 4 0 + oT G n (c + 1) + _
    rw [ih (c + 1), show c + 1 + n = c + (n + 1) by omega]; omega
/-- how many bells come ahead of the minute m's face i -/
def NB (D : Nat → Nat) (B : Nat → Bool) (m i : Nat) : Nat := nbN B * ((m - 1) / 60) + oT (Hc D B) ((m - 1) % 60) 1 + cM4 (Hc D B ((m - 1) % 60 + 1)) i 0
theorem NB_1 (D : Nat → Nat) (B : Nat → Bool) : NB D B 1 0 = 0 := by unfold NB; rfl
theorem NB_i (D : Nat → Nat) (B : Nat → Bool) (m i : Nat) : NB D B m (i + 1) = NB D B m i + (if Hc D B ((m - 1) % 60 + 1) i = true then 1 else 0) := by
  unfold NB
  rw [cM4_s, Nat.zero_add]
  simp only [Nat.add_assoc]
theorem NB_m (D : Nat → Nat) (B : Nat → Bool) {m : Nat} (h : 1 ≤ m) : NB D B m 4 = NB D B (m + 1) 0 := by
  have e : oT (Hc D B) ((m - 1) % 60 + 1) 1 = oT (Hc D B) ((m - 1) % 60) 1 + cM4 (Hc D B ((m - 1) % 60 + 1)) 4 0 := by
    rw [oT_s, Nat.add_comm 1]
  unfold NB
  rw [Nat.add_assoc, ← e]
  show _ = nbN B * ((m + 1 - 1) / 60) + oT (Hc D B) ((m + 1 - 1) % 60) 1 + 0
  by_cases g : (m - 1) % 60 = 59
  · rw [g, oT_60, show (m + 1 - 1) / 60 = (m - 1) / 60 + 1 by omega, show (m + 1 - 1) % 60 = 0 by omega, Nat.mul_succ]
    rfl
  · refine Eq.trans ?_ (Nat.add_zero _).symm
    rw [show (m + 1 - 1) / 60 = (m - 1) / 60 by omega, show (m + 1 - 1) % 60 = (m - 1) % 60 + 1 by omega]
theorem NB_end (D : Nat → Nat) (B : Nat → Bool) : NB D B 1441 0 = nbN B * 24 := by unfold NB; rfl
theorem Hc_iff {D : Nat → Nat} {B : Nat → Bool} {m i : Nat} (h : 1 ≤ m) : Hc D B ((m - 1) % 60 + 1) i = true ↔ B i = true ∧ (D i + m) % 60 = 0 := by
  unfold Hc hN
  rw [Bool.and_eq_true, decide_eq_true_eq]
  constructor
  · rintro ⟨a, c⟩; exact ⟨a, by omega⟩
  · rintro ⟨a, c⟩; exact ⟨a, by omega⟩
/-- a bell that comes: what the class answers -/
theorem NB_hit {x : RI} {D : Nat → Nat} {B : Nat → Bool} (hx : DB x D B) (q : CS) (hq : cT q 0 = x) {m i : Nat} (hm : 1 ≤ m) (hi : i < 4) (hh : Hc D B ((m - 1) % 60 + 1) i = true) (hp : NB D B m i < 24) :
    kComing q (nI (NB D B m i)) 0 = nI i ∧ kComing q (nI (NB D B m i)) 1 = nI m ∧ kComing q (nI (NB D B m i)) 2 = strC (nI ((D i + m) % 720)) := by
  have o := oI_pc hi hh 60 1 (by omega) (by omega)
  rw [show (m - 1) % 60 + 1 - 1 = (m - 1) % 60 by omega] at o
  have hs := (oI_some _ _ _ _ _ o).2.2.2.2
  rw [oT_60] at hs
  have e : NB D B m i = nbN B * ((m - 1) / 60) + (oT (Hc D B) ((m - 1) % 60) 1 + cM4 (Hc D B ((m - 1) % 60 + 1)) i 0) := by unfold NB; rw [Nat.add_assoc]
  have e1 : NB D B m i % nbN B = oT (Hc D B) ((m - 1) % 60) 1 + cM4 (Hc D B ((m - 1) % 60 + 1)) i 0 := by
    rw [e, Nat.mul_add_mod]; exact Nat.mod_eq_of_lt hs
  have e2 : NB D B m i / nbN B = (m - 1) / 60 := by
    rw [e, Nat.mul_add_div (by omega), Nat.div_eq_of_lt hs, Nat.add_zero]
  have c := com_hit hx q hq hp (by omega) (by rw [e1]; exact o)
  rw [e2, show 60 * ((m - 1) / 60) + ((m - 1) % 60 + 1) = m by omega] at c
  exact c
/-- the law's number of strikes -/
theorem str_law {d : Nat} (hd : d < 720) (h : d % 60 = 0) : strC (nI d) = jrem ((nI d + 660) / 60) 12 + 1 := by
  rw [za_strC hd]
  have e1 : (nI d + 660) / 60 = nI ((d + 660) / 60) := by
    rw [show nI d + 660 = nI (d + 660) from nI_add d 660]; exact pk_div (d := 60) (by omega) (by decide) (by decide)
  rw [e1, show jrem (nI ((d + 660) / 60)) 12 = nI ((d + 660) / 60 % 12) from za_rem (d := 12) (by omega) (by decide) (by decide), nI_1]
  refine congrArg nI ?_
  unfold stN
  split <;> omega

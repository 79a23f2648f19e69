abbrev RI : Type := Nat → Int32
theorem ne1000 {k : Nat} (h : k < 2 ^ 31) : ¬ nI k = -1000 := fun e => nI_pos h (by rw [e]; decide)
/-! numbers by their Nat pictures -/
theorem z_add {x y : Int32} {a b : Nat} (hx : x = nI a) (hy : y = nI b) : x + y = nI (a + b) := by subst hx; subst hy; exact nI_add a b
theorem z_mul {x y : Int32} {a b : Nat} (hx : x = nI a) (hy : y = nI b) : x * y = nI (a * b) := by subst hx; subst hy; exact pk_mul a b
theorem z_div {x y : Int32} {a b : Nat} (hx : x = nI a) (hy : y = nI b) (ha : a < 2 ^ 31) (h0 : 0 < b) (hb : b < 2 ^ 31) : x / y = nI (a / b) := by subst hx; subst hy; exact pk_div ha h0 hb
theorem z_rem {x y : Int32} {a b : Nat} (hx : x = nI a) (hy : y = nI b) (ha : a < 2 ^ 31) (h0 : 0 < b) (hb : b < 2 ^ 31) : jrem x y = nI (a % b) := by subst hx; subst hy; exact pk_rem ha h0 hb
/-- the row of a world's array, below its length -/
theorem wo_i1 {D : va_G} {cl : List vw_C} {ws : va_W} {k a n : Nat} {c : ClassId} {f f' : Nat → Int32} {H : Heap} (hP : va_P D cl ws H) (hk : ws[k]? = some (a, .inl (c, n, .inl f))) (h : ∀ j, j < n → f j = f' j) : va_P D cl (ws.set k (a, .inl (c, n, .inl f'))) H := by
  intro i q hi
  have hl : k < ws.length := (List.getElem?_eq_some_iff.mp hk).1
  by_cases e : i = k
  · subst e
    rw [List.getElem?_set_self hl] at hi
    cases hi
    exact wo_row h (hP i _ hk)
  · rw [List.getElem?_set_ne (fun x => e x.symm)] at hi
    exact hP i q hi
/-! PURE PART: numbers -/
theorem za_rem {a d : Nat} (ha : a < 2 ^ 31) (h0 : 0 < d) (hd : d < 2 ^ 31) : jrem (nI a) (nI d) = nI (a % d) := pk_rem ha h0 hd
theorem za_r720 {a : Nat} (ha : a < 2 ^ 31) : jrem (nI a) 720 = nI (a % 720) := za_rem (d := 720) ha (by decide) (by decide)
theorem za_r1440 {a : Nat} (ha : a < 2 ^ 31) : jrem (nI a) 1440 = nI (a % 1440) := za_rem (d := 1440) ha (by decide) (by decide)
theorem za_r60 {a : Nat} (ha : a < 2 ^ 31) : jrem (nI a) 60 = nI (a % 60) := za_rem (d := 60) ha (by decide) (by decide)
theorem za_lt {x y : Int32} {a b : Nat} (hx : x = nI a) (hy : y = nI b) (ha : a < 2 ^ 31) (hb : b < 2 ^ 31) : x < y ↔ a < b := by subst hx; subst hy; exact nI_ltI ha hb
theorem za_le {x y : Int32} {a b : Nat} (hx : x = nI a) (hy : y = nI b) (ha : a < 2 ^ 31) (hb : b < 2 ^ 31) : x ≤ y ↔ a ≤ b := by subst hx; subst hy; exact nI_leI ha hb
theorem za_eq {x y : Int32} {a b : Nat} (hx : x = nI a) (hy : y = nI b) (ha : a < 2 ^ 31) (hb : b < 2 ^ 31) : x = y ↔ a = b := by subst hx; subst hy; exact nI_eq ha hb
/-- the distance of two dials -/
def dN (a b : Nat) : Nat := if a ≤ b then min (b - a) (720 - (b - a)) else min (a - b) (720 - (a - b))
theorem za_min {w : Nat} (hw : w < 720) : jmin (nI w) (720 - nI w) = nI (min w (720 - w)) := by
  rw [show (720 : Int32) - nI w = nI (720 - w) from pk_sub (a := 720) (by omega)]
  show (if nI (720 - w) < nI w then nI (720 - w) else nI w) = _
  by_cases h : 720 - w < w
  · rw [if_pos (nI_lt h (by omega)), Nat.min_eq_right (by omega)]
  · rw [if_neg (nI_nlt (by omega) (by omega)), Nat.min_eq_left (by omega)]
theorem za_dC {a b : Nat} (ha : a < 720) (hb : b < 720) : distC (nI a) (nI b) = nI (dN a b) := by
  unfold distC dN
  by_cases h : a ≤ b
  · have q : jabs (nI a - nI b) = nI (b - a) := by
      show (if 0 ≤ nI a - nI b then nI a - nI b else 0 - (nI a - nI b)) = _
      by_cases h2 : a = b
      · subst h2
        rw [Int32.sub_self, if_pos (by decide), Nat.sub_self]; rfl
      · rw [if_neg (fun h3 => (Int32.not_le.mpr (pk_sneg (by omega) (by omega))) h3), Int32.zero_sub, Int32.neg_sub, pk_sub h]
    rw [q, if_pos h, za_min (by omega)]
  · have q : jabs (nI a - nI b) = nI (a - b) := by
      show (if 0 ≤ nI a - nI b then nI a - nI b else 0 - (nI a - nI b)) = _
      rw [pk_sub (by omega), if_pos (nI_pos' (by omega))]
    rw [q, if_neg h, za_min (by omega)]
theorem za_wrap {a b d : Nat} (hb : b ≤ d) : (nI a - nI b) + nI d = nI (a + d - b) := by
  have q : nI (a + d - b) = (nI a + nI d) - nI b := by rw [nI_add]; exact (pk_sub (by omega)).symm
  rw [q, Int32.sub_eq_add_neg, Int32.sub_eq_add_neg, Int32.add_assoc, Int32.add_assoc, Int32.add_comm (-nI b)]
theorem dN_self (a : Nat) : dN a a = 0 := by unfold dN; rw [if_pos (Nat.le_refl a)]; omega
theorem dN_comm (a b : Nat) : dN a b = dN b a := by unfold dN; split <;> split <;> omega
theorem dN_le {a b : Nat} (ha : a < 720) (hb : b < 720) : dN a b ≤ 360 := by unfold dN; split <;> omega
/-- strikes -/
def stN (n : Nat) : Nat := if 60 ≤ n then n / 60 else 12
theorem za_strC {n : Nat} (hn : n < 720) : strC (nI n) = nI (stN n) := by
  unfold strC stN
  by_cases h : 60 ≤ n
  · rw [if_pos ((za_le (x := 60) (a := 60) rfl rfl (by decide) (by omega)).mpr h), if_pos h]
    exact pk_div (d := 60) (by omega) (by decide) (by decide)
  · rw [if_neg (fun g => h ((za_le (x := 60) (a := 60) rfl rfl (by decide) (by omega)).mp g)), if_neg h]; rfl
theorem stN_pos (n : Nat) : 0 < stN n := by unfold stN; split <;> omega
theorem za_gb {d : Nat} (hd : d < 720) : ∃ k, k < 720 ∧ gbD (nI d) = nI k := by
  unfold gbD
  by_cases h : d = 0
  · subst h; exact ⟨719, by decide, rfl⟩
  · rw [if_neg (fun g => h ((za_eq (y := 0) (b := 0) rfl rfl (by omega) (by decide)).mp g)), show nI d - 1 = nI (d - 1) from pk_sub (b := 1) (by omega)]
    exact ⟨d - 1, by omega, rfl⟩
theorem za_wear : ∀ w, w < 10 → (jmax (nI w - 1) 0 = if nI w ≤ 0 then 0 else nI w - 1) ∧ (∃ k, k < 10 ∧ jmax (nI w - 1) 0 = nI k) := by
  intro w hw
  have h : ∀ w, w < 10 → (jmax (nI w - 1) 0 = if nI w ≤ 0 then 0 else nI w - 1) ∧ (jmax (nI w - 1) 0 = nI (w - 1)) := by decide +kernel
  exact ⟨(h w hw).1, w - 1, by omega, (h w hw).2⟩
theorem za_worn : ∀ w, w < 10 → (jmin (nI w + 1) 9 = if 9 ≤ nI w then nI w else nI w + 1) ∧ (∃ k, k < 10 ∧ jmin (nI w + 1) 9 = nI k) := by
  intro w hw
  have h : ∀ w, w < 10 → (jmin (nI w + 1) 9 = if 9 ≤ nI w then nI w else nI w + 1) ∧ (jmin (nI w + 1) 9 = nI (min (w + 1) 9)) := by decide +kernel
  exact ⟨(h w hw).1, min (w + 1) 9, by omega, (h w hw).2⟩
theorem za_xor (a b : Nat) : nI a ^^^ nI b = nI (a ^^^ b) := by
  apply Int32.toBitVec_inj.1
  show BitVec.ofNat 32 a ^^^ BitVec.ofNat 32 b = BitVec.ofNat 32 (a ^^^ b)
  apply BitVec.eq_of_getLsbD_eq
  intro i hi
  simp [hi]
/-- the remainder downwards -/
theorem za_fpos {a d : Nat} (ha : a < 2 ^ 31) (h0 : 0 < d) (hd : d < 2 ^ 31) : fmodC (nI a) (nI d) = nI (a % d) := by
  unfold fmodC
  rw [za_xor, if_pos (nI_pos' (Nat.xor_lt_two_pow ha hd))]
  exact za_rem ha h0 hd
theorem za_fneg720 : ∀ k, k < 31 → fmodC (-nI k) 720 = nI ((720 - k) % 720) := by decide +kernel
theorem za_fneg1440 : ∀ k, k < 1440 → fmodC (-nI k) 1440 = nI ((1440 - k) % 1440) := by decide +kernel
theorem za_negsub {a b : Nat} (h : a ≤ b) : nI a - nI b = -nI (b - a) := by
  rw [← pk_sub h, Int32.neg_sub]
/-- the time of a keeper -/
theorem za_tok {t w : Nat} (ht : t < 2 ^ 30) (hw : w ≤ 60) : fmodC (nI t + (nI w - 30)) 720 = nI ((t % 720 + w + 690) % 720) := by
  have q : nI t + (nI w - 30) = nI (t + w) - nI 30 := by rw [← nI_add, Int32.sub_eq_add_neg, Int32.sub_eq_add_neg, Int32.add_assoc]; rfl
  rw [q]
  by_cases h : 30 ≤ t + w
  · rw [pk_sub h]
    exact (za_fpos (d := 720) (by omega) (by decide) (by decide)).trans (congrArg nI (by omega))
  · rw [za_negsub (by omega), za_fneg720 _ (by omega)]
    exact congrArg nI (by omega)
theorem za_tokM {t w : Nat} (ht : t < 2 ^ 30) (hw : w ≤ 60) : jrem ((jrem (nI t) 720 + (nI w - 30)) + 720) 720 = nI ((t % 720 + w + 690) % 720) := by
  have q : (nI (t % 720) + (nI w - 30)) + 720 = nI (t % 720 + w + 690) := by
    have q1 : (nI w - 30) + 720 = nI (w + 690) := za_wrap (a := w) (b := 30) (d := 720) (by decide)
    rw [Int32.add_assoc, q1, nI_add]
    exact congrArg nI (by omega)
  rw [za_r720 (by omega), q]
  exact za_r720 (by omega)
/-- minutes ahead, modulo a day -/
theorem za_ahead {a b : Nat} (ha : a < 1440) (hb : b < 1440) : jrem ((nI a - nI b) + 1440) 1440 = nI ((a + 1440 - b) % 1440) := by
  rw [show (nI a - nI b) + 1440 = nI (a + 1440 - b) from za_wrap (d := 1440) (by omega)]
  exact za_r1440 (by omega)
theorem za_fahead {a b : Nat} (ha : a < 1440) (hb : b < 1440) : fmodC (nI a - nI b) 1440 = nI ((a + 1440 - b) % 1440) := by
  by_cases h : b ≤ a
  · rw [pk_sub h]
    exact (za_fpos (d := 1440) (by omega) (by decide) (by decide)).trans (congrArg nI (by omega))
  · rw [za_negsub (by omega), za_fneg1440 _ (by omega)]
    exact congrArg nI (by omega)

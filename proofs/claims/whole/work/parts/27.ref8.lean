theorem dzZ_7 {z : RI} {c : Nat} (op a b : Int32) (hc : c ≤ 6) (hz : z 7 = nI c) : ∃ c', c' ≤ 6 ∧ dzZ z c op a b 7 = nI c' := by
  unfold dzZ
  by_cases h1 : op = 102
  · rw [if_pos h1]; exact ⟨c, hc, hz_a hz (by omega)⟩
  · rw [if_neg h1]
    by_cases h2 : op = 107
    · rw [if_pos h2]
      by_cases h3 : wnh z c a b = 0
      · rw [if_pos h3]; exact ⟨c + 1, wnh_lt hc (by rw [h3]; decide), by unfold hirM upd; rw [if_pos rfl]⟩
      · rw [if_neg h3]; exact ⟨c, hc, hz⟩
    · rw [if_neg h2]
      by_cases h3 : op = 119
      · rw [if_pos h3]
        by_cases h4 : wnp z a = 0
        · rw [if_pos h4]; exact ⟨c, hc, (pmsM_7 _ _ _ _).trans hz⟩
        · rw [if_neg h4]; exact ⟨c, hc, hz⟩
      · rw [if_neg h3]
        by_cases h4 : op = 111
        · rw [if_pos h4]; exact ⟨c, hc, (oilM_7 _ _ (by omega)).trans hz⟩
        · rw [if_neg h4]
          refine ⟨c, hc, ?_⟩
          unfold hanM
          exact hz_a hz (by omega)

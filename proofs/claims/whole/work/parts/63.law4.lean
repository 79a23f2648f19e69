set_option maxHeartbeats 4000000 in
set_option maxRecDepth 100000 in
theorem lw_loop {p : Program} {l : Launch} {e : Env} {s : State} {m : MethodId} {below : List Frame} {meth : Method} {c : Code} {g : wG} {t : Nat → Nat} {b L : Nat} {xs : Nat → Int32} {ad : Nat → Nat → Nat} {o : Nat → Nat} (Z : LwX p s m c g t b L xs) (hr : meth.sig.returnType = ret) (hlocks : meth.locks = false) : ∀ (n i : Nat), i ≤ L → L + 1 ≤ i + n → ∀ (q : CS) (r : MS), Rel q r → LwG p l e s m below meth c g b ad o i 18 q r := by
  obtain ⟨X, hZ, hX, hbl, hL⟩ := id Z
  obtain ⟨⟨hx, hb, hml, hown, hts⟩, hK, hN⟩ := id X
  intro n
  induction n with
  | zero => intro i h1 h2; omega
  | succ n ih =>
    intro i h1 h2 q r h ls H locs hP hD hS hl
    refine lv_iload_n hx hb dL_law_18 rfl (lv_at hl 0 rfl) ?_
    refine lv_aload_n hx hb dL_law_19 rfl (lv_at hl 1 rfl) ?_
    refine va_slen (xs := xs) (L := L) hx hb hX hbl (Nat.not_le.mpr hbl) hS dL_law_20 ?_
    refine lv_iconst (v := 3) hx hb dL_law_21 (by decide) ?_
    refine lv_isub hx hb dL_law_22 ?_
    refine lv_icmp_gt (tgt := 726) hx hb dL_law_23 (by decide) (fun c1 => ?_) (fun c1 => ?_)
    · refine lv_iconst (v := 1) hx hb dL_law_726 (by decide) ?_
      refine va_forget (fun q hq => hS.2.2 q hq) ?_
      refine W.widen (k := 600000) (n := 7302250) (Nat.le_of_ble_eq_true rfl) (Nat.le_of_ble_eq_true rfl) ?_
      exact lw_ret hx hb hr hlocks dL_law_727
    · have hi : i + 3 ≤ L := by
        rcases Nat.lt_or_ge L (i + 3) with z | z
        · refine absurd ?_ c1
          show nI L - nI 3 < nI i
          by_cases z2 : 3 ≤ L
          · rw [pk_sub z2]; exact nI_lt (by omega) (by omega)
          · exact Int32.lt_iff_toInt_lt.mpr (Int.lt_of_lt_of_le (Int32.lt_iff_toInt_lt.mp (pk_sneg (by omega) (by omega))) (Int32.le_iff_toInt_le.mp (nI_pos' (by omega))))
        · exact z
      have nx : ∀ q1 r1, Rel q1 r1 → LwG p l e s m below meth c g b ad o i 720 q1 r1 := by
        intro q1 r1 hR ls H locs hP hD hS hl
        refine lv_iinc (v := nI (i + 3)) (lv' := [(3, .int (nI (i + 3))), (0, .ref b), (1, .ref (ad 8 0)), (2, .ref (o 0))]) hx hb dL_law_720 hl (k := 0) rfl (nI_add i 3) (by decide) rfl (fun ls hl => ?_)
        refine lv_goto (tgt := 18) hx hb dL_law_723 (by decide) ?_
        exact ih (i + 3) hi (by omega) q1 r1 hR ls _ _ hP hD hS hl
      refine lv_aload_n hx hb dL_law_26 rfl (lv_at hl 1 rfl) ?_
      refine lv_iload_n hx hb dL_law_27 rfl (lv_at hl 0 rfl) ?_
      refine va_sld (xs := xs) (L := L) hx hb hX hbl (Nat.not_le.mpr hbl) hS (vp_in_nI (by omega) (by omega)) dL_law_28 ?_
      refine lv_bipush (v := 31) hx hb dL_law_29 (by decide) ?_
      refine lv_iand hx hb dL_law_31 ?_
      obtain ⟨j, hj, ej⟩ := pk_andE (xs (nI i).toNatClampNeg) (m := 31) 5 (by decide)
      rw [ej]
      by_cases hj2 : j < 26
      · rcases (show j = 0 ∨ j = 1 ∨ j = 2 ∨ j = 3 ∨ j = 4 ∨ j = 5 ∨ j = 6 ∨ j = 7 ∨ j = 8 ∨ j = 9 ∨ j = 10 ∨ j = 11 ∨ j = 12 ∨ j = 13 ∨ j = 14 ∨ j = 15 ∨ j = 16 ∨ j = 17 ∨ j = 18 ∨ j = 19 ∨ j = 20 ∨ j = 21 ∨ j = 22 ∨ j = 23 ∨ j = 24 ∨ j = 25 by omega) with rfl | rfl | rfl | rfl | rfl | rfl | rfl | rfl | rfl | rfl | rfl | rfl | rfl | rfl | rfl | rfl | rfl | rfl | rfl | rfl | rfl | rfl | rfl | rfl | rfl | rfl
        · refine lv_tableIn (off := 120) (tgt := 152) hx hb dL_law_32 (by decide) (by decide) (by rfl) (by decide) ?_
          exact lw_c0 Z hi h nx ls _ _ hP hD hS hl
        · refine lv_tableIn (off := 153) (tgt := 185) hx hb dL_law_32 (by decide) (by decide) (by rfl) (by decide) ?_
          exact lw_c1 Z hi h nx ls _ _ hP hD hS hl
        · refine lv_tableIn (off := 176) (tgt := 208) hx hb dL_law_32 (by decide) (by decide) (by rfl) (by decide) ?_
          exact lw_c2 Z hi h nx ls _ _ hP hD hS hl
        · refine lv_tableIn (off := 209) (tgt := 241) hx hb dL_law_32 (by decide) (by decide) (by rfl) (by decide) ?_
          exact lw_c3 Z hi h nx ls _ _ hP hD hS hl
        · refine lv_tableIn (off := 232) (tgt := 264) hx hb dL_law_32 (by decide) (by decide) (by rfl) (by decide) ?_
          exact lw_c4 Z hi h nx ls _ _ hP hD hS hl
        · refine lv_tableIn (off := 265) (tgt := 297) hx hb dL_law_32 (by decide) (by decide) (by rfl) (by decide) ?_
          exact lw_c5 Z hi h nx ls _ _ hP hD hS hl
        · refine lv_tableIn (off := 288) (tgt := 320) hx hb dL_law_32 (by decide) (by decide) (by rfl) (by decide) ?_
          exact lw_c6 Z hi h nx ls _ _ hP hD hS hl
        · refine lv_tableIn (off := 311) (tgt := 343) hx hb dL_law_32 (by decide) (by decide) (by rfl) (by decide) ?_
          exact lw_c7 Z hi h nx ls _ _ hP hD hS hl
        · refine lv_tableIn (off := 344) (tgt := 376) hx hb dL_law_32 (by decide) (by decide) (by rfl) (by decide) ?_
          exact lw_c8 Z hi h nx ls _ _ hP hD hS hl
        · refine lv_tableIn (off := 367) (tgt := 399) hx hb dL_law_32 (by decide) (by decide) (by rfl) (by decide) ?_
          exact lw_c9 Z hi h nx ls _ _ hP hD hS hl
        · refine lv_tableIn (off := 380) (tgt := 412) hx hb dL_law_32 (by decide) (by decide) (by rfl) (by decide) ?_
          exact lw_c10 Z hi h nx ls _ _ hP hD hS hl
        · refine lv_tableIn (off := 413) (tgt := 445) hx hb dL_law_32 (by decide) (by decide) (by rfl) (by decide) ?_
          exact lw_c11 Z hi h nx ls _ _ hP hD hS hl
        · refine lv_tableIn (off := 426) (tgt := 458) hx hb dL_law_32 (by decide) (by decide) (by rfl) (by decide) ?_
          exact lw_c12 Z hi h nx ls _ _ hP hD hS hl
        · refine lv_tableIn (off := 459) (tgt := 491) hx hb dL_law_32 (by decide) (by decide) (by rfl) (by decide) ?_
          exact lw_c13 Z hi h nx ls _ _ hP hD hS hl
        · refine lv_tableIn (off := 482) (tgt := 514) hx hb dL_law_32 (by decide) (by decide) (by rfl) (by decide) ?_
          exact lw_c14 Z hi h nx ls _ _ hP hD hS hl
        · refine lv_tableIn (off := 495) (tgt := 527) hx hb dL_law_32 (by decide) (by decide) (by rfl) (by decide) ?_
          exact lw_c15 Z hi h nx ls _ _ hP hD hS hl
        · refine lv_tableIn (off := 528) (tgt := 560) hx hb dL_law_32 (by decide) (by decide) (by rfl) (by decide) ?_
          exact lw_c16 Z hi h nx ls _ _ hP hD hS hl
        · refine lv_tableIn (off := 551) (tgt := 583) hx hb dL_law_32 (by decide) (by decide) (by rfl) (by decide) ?_
          exact lw_c17 Z hi h nx ls _ _ hP hD hS hl
        · refine lv_tableIn (off := 574) (tgt := 606) hx hb dL_law_32 (by decide) (by decide) (by rfl) (by decide) ?_
          exact lw_c18 Z hi h nx ls _ _ hP hD hS hl
        · refine lv_tableIn (off := 587) (tgt := 619) hx hb dL_law_32 (by decide) (by decide) (by rfl) (by decide) ?_
          exact lw_c19 Z hi h nx ls _ _ hP hD hS hl
        · refine lv_tableIn (off := 610) (tgt := 642) hx hb dL_law_32 (by decide) (by decide) (by rfl) (by decide) ?_
          exact lw_c20 Z hi h nx ls _ _ hP hD hS hl
        · refine lv_tableIn (off := 623) (tgt := 655) hx hb dL_law_32 (by decide) (by decide) (by rfl) (by decide) ?_
          exact lw_c21 Z hi h nx ls _ _ hP hD hS hl
        · refine lv_tableIn (off := 636) (tgt := 668) hx hb dL_law_32 (by decide) (by decide) (by rfl) (by decide) ?_
          exact lw_c22 Z hi h nx ls _ _ hP hD hS hl
        · refine lv_tableIn (off := 649) (tgt := 681) hx hb dL_law_32 (by decide) (by decide) (by rfl) (by decide) ?_
          exact lw_c23 Z hi h nx ls _ _ hP hD hS hl
        · refine lv_tableIn (off := 662) (tgt := 694) hx hb dL_law_32 (by decide) (by decide) (by rfl) (by decide) ?_
          exact lw_c24 Z hi h nx ls _ _ hP hD hS hl
        · refine lv_tableIn (off := 675) (tgt := 707) hx hb dL_law_32 (by decide) (by decide) (by rfl) (by decide) ?_
          exact lw_c25 Z hi h nx ls _ _ hP hD hS hl
      · refine lv_tableOut (tgt := 720) hx hb dL_law_32 (by rw [nI_toInt (by omega)]; omega) (by decide) ?_
        exact nx q r h ls _ _ hP hD hS hl

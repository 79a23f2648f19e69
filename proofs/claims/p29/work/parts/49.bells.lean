set_option maxHeartbeats 4000000 in
set_option maxRecDepth 100000 in
theorem c_L_bellsn (l : Launch) (g : wG) (ad : Nat → Nat → Nat) (q : CS) (bf : Nat) (f : Nat → Int32) (D : Nat → Nat) (B : Nat → Bool) (hx9 : DB (cT q 0) D B) (hf : ∀ i, i < 4 → D i < 720 ∧ f (7 * i) = nI (D i) ∧ f (7 * i + 5) = (if B i = true then 1 else 0)) (nf : Nat) (hnf : 1 + nf = 1441) : CtI l g 4 yL_bells cL_bells 6 (some .boolean) [.ref (ad 8 0), .ref bf] (LF g bf f ++ CW g ad q) 1 (LF g bf f ++ CW g ad q) := by
  intro sz
  refine x_enter (Qc := fun A => QI g A 1 (LF g bf f ++ CW g ad q)) (by decide) (Nat.le_of_ble_eq_true rfl) ?_
  intro p e s m args below meth c X hr hlocks A hA hP hD hS ls hl
  obtain ⟨⟨hx, hb, hml, hown, hts⟩, hK, hN⟩ := id X
  have hl : lv_has ls 6 [(0, .ref (ad 8 0)), (1, .ref bf)] := hl
  have hP : va_P g.1 vwCl ([(bf, .inl (g.2 0, 28, .inl f))] ++ (CW g ad q)) s.heap := hP
  have hD : va_D A ([(bf, .inl (g.2 0, 28, .inl f))] ++ (CW g ad q)) := hD
  refine lv_iconst (v := 0) hx hb dL_bells_0 (by decide) ?_
  refine lv_istore_n (lv' := [(2, .int 0), (0, .ref (ad 8 0)), (1, .ref bf)]) hx hb dL_bells_1 rfl hl (by decide) rfl (fun ls hl => ?_)
  refine lv_iconst (v := 1) hx hb dL_bells_2 (by decide) ?_
  refine lv_istore_n (lv' := [(3, .int 1), (2, .int 0), (0, .ref (ad 8 0)), (1, .ref bf)]) hx hb dL_bells_3 rfl hl (by decide) rfl (fun ls hl => ?_)
  suffices LP4 : ∀ (n : Nat) (mi : Nat) (fn : Nat), mi + n = 1441 → 1 ≤ mi → (fn ≤ 24 ∧ (fn < 24 → fn = NB D B mi 0)) → ∀ (ls : Array Slot) (H : Heap) (locs : List Loc), va_P g.1 vwCl ([(bf, .inl (g.2 0, 28, .inl f))] ++ (CW g ad q)) H → va_D A ([(bf, .inl (g.2 0, 28, .inl f))] ++ (CW g ad q)) → va_S A s.heap H locs → lv_has ls 6 [(3, .int (nI mi)), (2, .int (nI fn)), (0, .ref (ad 8 0)), (1, .ref bf)] → W p l e (rmD 4) s m args below meth c H locs 0 0 (MQ below (QI g A 1 (LF g bf f ++ CW g ad q)) args s 0 0 A) (F0 m 4 ls []) from LP4 nf 1 0 hnf (Nat.le_refl 1) ⟨Nat.zero_le _, fun _ => (NB_1 D B).symm⟩ ls _ _ hP hD hS (lv_sub hl [0, 1, 2, 3] rfl)
  intro n
  induction n with
  | zero =>
    intro mi fn hm h1 hI ls H locs hP hD hS hl
    refine lv_iload_n hx hb dL_bells_4 rfl (lv_at hl 0 rfl) ?_
    refine lv_sipush (v := 1441) hx hb dL_bells_5 (by decide) ?_
    refine lv_icmp_ge (tgt := 129) hx hb dL_bells_8 (by decide) (fun c_1 => ?_) (fun q9 => absurd (show 1441 ≤ (nI mi) from (nI_le (a := 1441) (by omega) (by omega))) (show ¬ (1441 ≤ (nI mi)) from q9))
    have h24 : fn = 24 ∨ (fn = 0 ∧ nbN B = 0) := by
      rcases Nat.lt_or_ge fn 24 with z | z
      · have z2 := hI.2 z
        rw [show mi = 1441 by omega, NB_end] at z2; right; omega
      · have := hI.1; left; omega
    rcases h24 with h24 | ⟨hf0, hb0⟩
    · refine lv_iload_n hx hb dL_bells_129 rfl (lv_at hl 1 rfl) ?_
      refine lv_bipush (v := 24) hx hb dL_bells_130 (by decide) ?_
      refine lv_icmp_eq (tgt := 164) hx hb dL_bells_132 (by decide) (fun c_2 => ?_) (fun q9 => absurd (show (nI fn) = 24 from (by rw [h24]; rfl)) (show ¬ ((nI fn) = 24) from q9))
      refine lv_iconst (v := 1) hx hb dL_bells_164 (by decide) ?_
      refine lv_goto (tgt := 169) hx hb dL_bells_165 (by decide) ?_
      exact x_zret X hr hlocks rfl hP hD hS rfl dL_bells_169
    · refine lv_iload_n hx hb dL_bells_129 rfl (lv_at hl 1 rfl) ?_
      refine lv_bipush (v := 24) hx hb dL_bells_130 (by decide) ?_
      refine lv_icmp_eq (tgt := 164) hx hb dL_bells_132 (by decide) (fun q9 => absurd q9 (show ¬ (nI fn) = 24 from (by rw [hf0]; decide))) (fun c_3 => ?_)
      refine lv_iload_n hx hb dL_bells_135 rfl (lv_at hl 1 rfl) ?_
      refine lv_if_ne (tgt := 168) hx hb dL_bells_136 (by decide) (fun q9 => absurd (show (nI fn) = 0 from (by rw [hf0]; rfl)) q9) (fun c_4 => ?_)
      refine lv_aload_n hx hb dL_bells_139 rfl (lv_at hl 2 rfl) ?_
      refine lv_iconst (v := 0) hx hb dL_bells_140 (by decide) ?_
      refine lv_iconst (v := 0) hx hb dL_bells_141 (by decide) ?_
      refine x_goI (wn := [(bf, .inl (g.2 0, 28, .inl f))] ++ (CW g ad q)) (x_rV (As := [.int 0, .int 0]) X (c_X5_coming l g ad q 0 0 _) yf_X5_coming yi_X5_coming wM_L_60 ⟨Nat.le_of_ble_eq_true rfl, Nat.le_of_ble_eq_true rfl⟩ hP hD List.perm_append_comm 0 rfl rfl hl rfl rfl (Nat.le_of_ble_eq_true rfl) dL_bells_142 ⟨Nat.zero_le _, Nat.zero_le _⟩) hP hD hS hA List.perm_append_comm (List.Perm.refl _) (fun H locs hP hD hS => ?_)
      refine lv_sipush (v := (-1000)) hx hb dL_bells_145 (by decide) ?_
      refine lv_icmp_ne (tgt := 168) hx hb dL_bells_148 (by decide) (fun q9 => absurd (show (kComing q 0 0) = (-1000) from (com_none hx9 q rfl hb0).1) q9) (fun c_5 => ?_)
      refine lv_aload_n hx hb dL_bells_151 rfl (lv_at hl 2 rfl) ?_
      refine lv_bipush (v := 23) hx hb dL_bells_152 (by decide) ?_
      refine lv_iconst (v := 2) hx hb dL_bells_154 (by decide) ?_
      refine x_goI (wn := [(bf, .inl (g.2 0, 28, .inl f))] ++ (CW g ad q)) (x_rV (As := [.int 23, .int 2]) X (c_X5_coming l g ad q 23 2 _) yf_X5_coming yi_X5_coming wM_L_60 ⟨Nat.le_of_ble_eq_true rfl, Nat.le_of_ble_eq_true rfl⟩ hP hD List.perm_append_comm 0 rfl rfl hl rfl rfl (Nat.le_of_ble_eq_true rfl) dL_bells_155 ⟨Nat.zero_le _, Nat.zero_le _⟩) hP hD hS hA List.perm_append_comm (List.Perm.refl _) (fun H locs hP hD hS => ?_)
      refine lv_sipush (v := (-1000)) hx hb dL_bells_158 (by decide) ?_
      refine lv_icmp_ne (tgt := 168) hx hb dL_bells_161 (by decide) (fun q9 => absurd (show (kComing q 23 2) = (-1000) from (com_none hx9 q rfl hb0).2) q9) (fun c_6 => ?_)
      refine lv_iconst (v := 1) hx hb dL_bells_164 (by decide) ?_
      refine lv_goto (tgt := 169) hx hb dL_bells_165 (by decide) ?_
      exact x_zret X hr hlocks rfl hP hD hS rfl dL_bells_169
  | succ n ih =>
    intro mi fn hm h1 hI ls H locs hP hD hS hl
    have ihO := ih
    refine lv_iload_n hx hb dL_bells_4 rfl (lv_at hl 0 rfl) ?_
    refine lv_sipush (v := 1441) hx hb dL_bells_5 (by decide) ?_
    refine lv_icmp_ge (tgt := 129) hx hb dL_bells_8 (by decide) (fun q9 => absurd q9 (show ¬ 1441 ≤ (nI mi) from (nI_ge (b := 1441) (by omega) (by omega)))) (fun c_7 => ?_)
    refine lv_iload_n hx hb dL_bells_11 rfl (lv_at hl 1 rfl) ?_
    refine lv_bipush (v := 24) hx hb dL_bells_12 (by decide) ?_
    refine lv_icmp_ge (tgt := 129) hx hb dL_bells_14 (by decide) (fun (c_8 : 24 ≤ (nI fn)) => ?_) (fun (c_8 : ¬ 24 ≤ (nI fn)) => ?_)
    · have h24 : fn = 24 ∨ (fn = 0 ∧ nbN B = 0) := by
        refine Or.inl ?_
        have z : ¬ fn < 24 := fun hlt => absurd c_8 (nI_ge (b := 24) hlt (by decide))
        have := hI.1; omega
      rcases h24 with h24 | ⟨hf0, hb0⟩
      · refine lv_iload_n hx hb dL_bells_129 rfl (lv_at hl 1 rfl) ?_
        refine lv_bipush (v := 24) hx hb dL_bells_130 (by decide) ?_
        refine lv_icmp_eq (tgt := 164) hx hb dL_bells_132 (by decide) (fun c_9 => ?_) (fun q9 => absurd (show (nI fn) = 24 from (by rw [h24]; rfl)) (show ¬ ((nI fn) = 24) from q9))
        refine lv_iconst (v := 1) hx hb dL_bells_164 (by decide) ?_
        refine lv_goto (tgt := 169) hx hb dL_bells_165 (by decide) ?_
        exact x_zret X hr hlocks rfl hP hD hS rfl dL_bells_169
      · refine lv_iload_n hx hb dL_bells_129 rfl (lv_at hl 1 rfl) ?_
        refine lv_bipush (v := 24) hx hb dL_bells_130 (by decide) ?_
        refine lv_icmp_eq (tgt := 164) hx hb dL_bells_132 (by decide) (fun q9 => absurd q9 (show ¬ (nI fn) = 24 from (by rw [hf0]; decide))) (fun c_10 => ?_)
        refine lv_iload_n hx hb dL_bells_135 rfl (lv_at hl 1 rfl) ?_
        refine lv_if_ne (tgt := 168) hx hb dL_bells_136 (by decide) (fun q9 => absurd (show (nI fn) = 0 from (by rw [hf0]; rfl)) q9) (fun c_11 => ?_)
        refine lv_aload_n hx hb dL_bells_139 rfl (lv_at hl 2 rfl) ?_
        refine lv_iconst (v := 0) hx hb dL_bells_140 (by decide) ?_
        refine lv_iconst (v := 0) hx hb dL_bells_141 (by decide) ?_
        refine x_goI (wn := [(bf, .inl (g.2 0, 28, .inl f))] ++ (CW g ad q)) (x_rV (As := [.int 0, .int 0]) X (c_X5_coming l g ad q 0 0 _) yf_X5_coming yi_X5_coming wM_L_60 ⟨Nat.le_of_ble_eq_true rfl, Nat.le_of_ble_eq_true rfl⟩ hP hD List.perm_append_comm 0 rfl rfl hl rfl rfl (Nat.le_of_ble_eq_true rfl) dL_bells_142 ⟨Nat.zero_le _, Nat.zero_le _⟩) hP hD hS hA List.perm_append_comm (List.Perm.refl _) (fun H locs hP hD hS => ?_)
        refine lv_sipush (v := (-1000)) hx hb dL_bells_145 (by decide) ?_
        refine lv_icmp_ne (tgt := 168) hx hb dL_bells_148 (by decide) (fun q9 => absurd (show (kComing q 0 0) = (-1000) from (com_none hx9 q rfl hb0).1) q9) (fun c_12 => ?_)
        refine lv_aload_n hx hb dL_bells_151 rfl (lv_at hl 2 rfl) ?_
        refine lv_bipush (v := 23) hx hb dL_bells_152 (by decide) ?_
        refine lv_iconst (v := 2) hx hb dL_bells_154 (by decide) ?_
        refine x_goI (wn := [(bf, .inl (g.2 0, 28, .inl f))] ++ (CW g ad q)) (x_rV (As := [.int 23, .int 2]) X (c_X5_coming l g ad q 23 2 _) yf_X5_coming yi_X5_coming wM_L_60 ⟨Nat.le_of_ble_eq_true rfl, Nat.le_of_ble_eq_true rfl⟩ hP hD List.perm_append_comm 0 rfl rfl hl rfl rfl (Nat.le_of_ble_eq_true rfl) dL_bells_155 ⟨Nat.zero_le _, Nat.zero_le _⟩) hP hD hS hA List.perm_append_comm (List.Perm.refl _) (fun H locs hP hD hS => ?_)
        refine lv_sipush (v := (-1000)) hx hb dL_bells_158 (by decide) ?_
        refine lv_icmp_ne (tgt := 168) hx hb dL_bells_161 (by decide) (fun q9 => absurd (show (kComing q 23 2) = (-1000) from (com_none hx9 q rfl hb0).2) q9) (fun c_13 => ?_)
        refine lv_iconst (v := 1) hx hb dL_bells_164 (by decide) ?_
        refine lv_goto (tgt := 169) hx hb dL_bells_165 (by decide) ?_
        exact x_zret X hr hlocks rfl hP hD hS rfl dL_bells_169
    · refine lv_iconst (v := 0) hx hb dL_bells_17 (by decide) ?_
      refine lv_istore (lv' := [(4, .int 0), (3, .int (nI mi)), (2, .int (nI fn)), (0, .ref (ad 8 0)), (1, .ref bf)]) hx hb dL_bells_18 hl (by decide) rfl (fun ls hl => ?_)
      suffices LP20 : ∀ (n : Nat) (i : Nat) (f2 : Nat), i + n = 4 → (f2 ≤ 24 ∧ (f2 < 24 → f2 = NB D B mi i)) → ∀ (ls : Array Slot) (H : Heap) (locs : List Loc), va_P g.1 vwCl ([(bf, .inl (g.2 0, 28, .inl f))] ++ (CW g ad q)) H → va_D A ([(bf, .inl (g.2 0, 28, .inl f))] ++ (CW g ad q)) → va_S A s.heap H locs → lv_has ls 6 [(4, .int (nI i)), (3, .int (nI mi)), (2, .int (nI f2)), (0, .ref (ad 8 0)), (1, .ref bf)] → W p l e (rmD 4) s m args below meth c H locs 0 0 (MQ below (QI g A 1 (LF g bf f ++ CW g ad q)) args s 0 0 A) (F0 m 20 ls []) from LP20 4 0 fn rfl hI ls _ _ hP hD hS (lv_sub hl [0, 1, 2, 3, 4] rfl)
      intro n
      induction n with
      | zero =>
        intro i f2 hi hI2 ls H locs hP hD hS hl
        refine lv_iload hx hb dL_bells_20 (lv_at hl 0 rfl) ?_
        refine lv_iconst (v := 4) hx hb dL_bells_22 (by decide) ?_
        refine lv_icmp_ge (tgt := 123) hx hb dL_bells_23 (by decide) (fun c_14 => ?_) (fun q9 => absurd (show 4 ≤ (nI i) from (nI_le (a := 4) (by omega) (by omega))) (show ¬ (4 ≤ (nI i)) from q9))
        refine lv_iinc (v := (nI (mi + 1))) (lv' := [(3, .int (nI (mi + 1))), (4, .int (nI i)), (2, .int (nI f2)), (0, .ref (ad 8 0)), (1, .ref bf)]) hx hb dL_bells_123 hl (k := 1) rfl (nI_add _ 1) (by decide) rfl (fun ls hl => ?_)
        refine lv_goto (tgt := 4) hx hb dL_bells_126 (by decide) ?_
        exact ihO (mi + 1) f2 (by omega) (by omega) ⟨hI2.1, fun hlt => (hI2.2 hlt).trans (by rw [show i = 4 by omega]; exact NB_m D B h1)⟩ ls _ _ hP hD hS (lv_sub hl [0, 2, 3, 4] rfl)
      | succ n ih =>
        intro i f2 hi hI2 ls H locs hP hD hS hl
        obtain ⟨d1, d2, d3⟩ := hf i (by omega)
        have hd : jrem (f (7 * i) + nI mi) 720 = nI ((D i + mi) % 720) := by rw [d2, nI_add]; exact za_r720 (by omega)
        refine lv_iload hx hb dL_bells_20 (lv_at hl 0 rfl) ?_
        refine lv_iconst (v := 4) hx hb dL_bells_22 (by decide) ?_
        refine lv_icmp_ge (tgt := 123) hx hb dL_bells_23 (by decide) (fun q9 => absurd q9 (show ¬ 4 ≤ (nI i) from (nI_ge (b := 4) (by omega) (by omega)))) (fun c_15 => ?_)
        refine lv_iload_n hx hb dL_bells_26 rfl (lv_at hl 2 rfl) ?_
        refine lv_bipush (v := 24) hx hb dL_bells_27 (by decide) ?_
        refine lv_icmp_ge (tgt := 123) hx hb dL_bells_29 (by decide) (fun (c_16 : 24 ≤ (nI f2)) => ?_) (fun (c_16 : ¬ 24 ≤ (nI f2)) => ?_)
        · refine lv_iinc (v := (nI (mi + 1))) (lv' := [(3, .int (nI (mi + 1))), (4, .int (nI i)), (2, .int (nI f2)), (0, .ref (ad 8 0)), (1, .ref bf)]) hx hb dL_bells_123 hl (k := 1) rfl (nI_add _ 1) (by decide) rfl (fun ls hl => ?_)
          refine lv_goto (tgt := 4) hx hb dL_bells_126 (by decide) ?_
          exact ihO (mi + 1) f2 (by omega) (by omega) ⟨hI2.1, fun hlt => absurd c_16 (nI_ge (b := 24) hlt (by decide))⟩ ls _ _ hP hD hS (lv_sub hl [0, 2, 3, 4] rfl)
        · have g9 : f2 < 24 := by
            rcases Nat.lt_or_ge f2 24 with z | z
            · exact z
            · exact absurd (nI_le z (by omega)) c_16
          have eN : f2 = NB D B mi i := hI2.2 g9
          refine lv_aload_n hx hb dL_bells_32 rfl (lv_at hl 4 rfl) ?_
          refine lv_bipush (v := 7) hx hb dL_bells_33 (by decide) ?_
          refine lv_iload hx hb dL_bells_35 (lv_at hl 0 rfl) ?_
          refine lv_imul hx hb dL_bells_37 ?_
          refine x_iald (v := (f (7 * i))) X 0 (7 * i) hP rfl (z_mul rfl rfl) (by omega) (Nat.le_of_ble_eq_true rfl) rfl dL_bells_38 ?_
          refine lv_iload_n hx hb dL_bells_39 rfl (lv_at hl 1 rfl) ?_
          refine lv_iadd hx hb dL_bells_40 ?_
          refine lv_sipush (v := 720) hx hb dL_bells_41 (by decide) ?_
          refine lv_irem hx hb dL_bells_44 (by decide) ?_
          refine lv_istore (lv' := [(5, .int (jrem ((f (7 * i)) + (nI mi)) 720)), (4, .int (nI i)), (3, .int (nI mi)), (2, .int (nI f2)), (0, .ref (ad 8 0)), (1, .ref bf)]) hx hb dL_bells_45 hl (by decide) rfl (fun ls hl => ?_)
          refine lv_aload_n hx hb dL_bells_47 rfl (lv_at hl 5 rfl) ?_
          refine lv_bipush (v := 7) hx hb dL_bells_48 (by decide) ?_
          refine lv_iload hx hb dL_bells_50 (lv_at hl 1 rfl) ?_
          refine lv_imul hx hb dL_bells_52 ?_
          refine lv_iconst (v := 5) hx hb dL_bells_53 (by decide) ?_
          refine lv_iadd hx hb dL_bells_54 ?_
          refine x_iald (v := (f ((7 * i) + 5))) X 0 ((7 * i) + 5) hP rfl (z_add (z_mul rfl rfl) rfl) (by omega) (Nat.le_of_ble_eq_true rfl) rfl dL_bells_55 ?_
          refine lv_iconst (v := 1) hx hb dL_bells_56 (by decide) ?_
          refine lv_icmp_ne (tgt := 117) hx hb dL_bells_57 (by decide) (fun (c_17 : ¬ (f ((7 * i) + 5)) = 1) => ?_) (fun (c_17 : (f ((7 * i) + 5)) = 1) => ?_)
          · have hnh : ¬ Hc D B ((mi - 1) % 60 + 1) i = true := by
              intro q8
              obtain ⟨a8, b8⟩ := (Hc_iff h1).mp q8
              exact c_17 (by rw [d3, if_pos a8])
            refine lv_iinc (v := (nI (i + 1))) (lv' := [(4, .int (nI (i + 1))), (5, .int (jrem ((f (7 * i)) + (nI mi)) 720)), (3, .int (nI mi)), (2, .int (nI f2)), (0, .ref (ad 8 0)), (1, .ref bf)]) hx hb dL_bells_117 hl (k := 1) rfl (nI_add _ 1) (by decide) rfl (fun ls hl => ?_)
            refine lv_goto (tgt := 20) hx hb dL_bells_120 (by decide) ?_
            exact ih (i + 1) f2 (by omega) ⟨hI2.1, fun hlt => by rw [NB_i, if_neg hnh, Nat.add_zero]; exact hI2.2 hlt⟩ ls _ _ hP hD hS (lv_sub hl [0, 2, 3, 4, 5] rfl)
          · refine lv_iload hx hb dL_bells_60 (lv_at hl 0 rfl) ?_
            refine lv_bipush (v := 60) hx hb dL_bells_62 (by decide) ?_
            refine lv_irem hx hb dL_bells_64 (by decide) ?_
            refine lv_if_ne (tgt := 117) hx hb dL_bells_65 (by decide) (fun (c_18 : ¬ (jrem (jrem ((f (7 * i)) + (nI mi)) 720) 60) = 0) => ?_) (fun (c_18 : (jrem (jrem ((f (7 * i)) + (nI mi)) 720) 60) = 0) => ?_)
            · have hnh : ¬ Hc D B ((mi - 1) % 60 + 1) i = true := by
                intro q8
                obtain ⟨a8, b8⟩ := (Hc_iff h1).mp q8
                exact c_18 (by rw [hd, za_r60 (by omega)]; exact congrArg nI (show (D i + mi) % 720 % 60 = 0 by omega))
              refine lv_iinc (v := (nI (i + 1))) (lv' := [(4, .int (nI (i + 1))), (5, .int (jrem ((f (7 * i)) + (nI mi)) 720)), (3, .int (nI mi)), (2, .int (nI f2)), (0, .ref (ad 8 0)), (1, .ref bf)]) hx hb dL_bells_117 hl (k := 1) rfl (nI_add _ 1) (by decide) rfl (fun ls hl => ?_)
              refine lv_goto (tgt := 20) hx hb dL_bells_120 (by decide) ?_
              exact ih (i + 1) f2 (by omega) ⟨hI2.1, fun hlt => by rw [NB_i, if_neg hnh, Nat.add_zero]; exact hI2.2 hlt⟩ ls _ _ hP hD hS (lv_sub hl [0, 2, 3, 4, 5] rfl)
            · have hB : B i = true := by
                rcases Bool.eq_false_or_eq_true (B i) with z | z
                · exact z
                · rw [d3, z] at c_17; exact absurd c_17 (by decide)
              have h60 : (D i + mi) % 720 % 60 = 0 := by rw [hd, za_r60 (by omega)] at c_18; exact (nI_eq (b := 0) (by omega) (by decide)).mp c_18
              have hh : Hc D B ((mi - 1) % 60 + 1) i = true := (Hc_iff h1).mpr ⟨hB, by omega⟩
              obtain ⟨q0, q1, q2⟩ := NB_hit hx9 q rfl h1 (show i < 4 by omega) hh (by rw [← eN]; exact g9)
              rw [← eN] at q0 q1 q2
              have q3 : kComing q (nI f2) 2 = jrem ((jrem (f (7 * i) + nI mi) 720 + 660) / 60) 12 + 1 := by rw [q2, hd]; exact str_law (Nat.mod_lt _ (by decide)) h60
              refine lv_aload_n hx hb dL_bells_68 rfl (lv_at hl 4 rfl) ?_
              refine lv_iload_n hx hb dL_bells_69 rfl (lv_at hl 3 rfl) ?_
              refine lv_iconst (v := 0) hx hb dL_bells_70 (by decide) ?_
              refine x_goI (wn := [(bf, .inl (g.2 0, 28, .inl f))] ++ (CW g ad q)) (x_rV (As := [.int (nI f2), .int 0]) X (c_X5_coming l g ad q (nI f2) 0 _) yf_X5_coming yi_X5_coming wM_L_60 ⟨Nat.le_of_ble_eq_true rfl, Nat.le_of_ble_eq_true rfl⟩ hP hD List.perm_append_comm 0 rfl rfl hl rfl rfl (Nat.le_of_ble_eq_true rfl) dL_bells_71 ⟨Nat.zero_le _, Nat.zero_le _⟩) hP hD hS hA List.perm_append_comm (List.Perm.refl _) (fun H locs hP hD hS => ?_)
              refine lv_iload hx hb dL_bells_74 (lv_at hl 1 rfl) ?_
              refine lv_icmp_ne (tgt := 112) hx hb dL_bells_76 (by decide) (fun q9 => absurd (show (kComing q (nI f2) 0) = (nI i) from q0) q9) (fun c_19 => ?_)
              refine lv_aload_n hx hb dL_bells_79 rfl (lv_at hl 4 rfl) ?_
              refine lv_iload_n hx hb dL_bells_80 rfl (lv_at hl 3 rfl) ?_
              refine lv_iconst (v := 1) hx hb dL_bells_81 (by decide) ?_
              refine x_goI (wn := [(bf, .inl (g.2 0, 28, .inl f))] ++ (CW g ad q)) (x_rV (As := [.int (nI f2), .int 1]) X (c_X5_coming l g ad q (nI f2) 1 _) yf_X5_coming yi_X5_coming wM_L_60 ⟨Nat.le_of_ble_eq_true rfl, Nat.le_of_ble_eq_true rfl⟩ hP hD List.perm_append_comm 0 rfl rfl hl rfl rfl (Nat.le_of_ble_eq_true rfl) dL_bells_82 ⟨Nat.zero_le _, Nat.zero_le _⟩) hP hD hS hA List.perm_append_comm (List.Perm.refl _) (fun H locs hP hD hS => ?_)
              refine lv_iload_n hx hb dL_bells_85 rfl (lv_at hl 2 rfl) ?_
              refine lv_icmp_ne (tgt := 112) hx hb dL_bells_86 (by decide) (fun q9 => absurd (show (kComing q (nI f2) 1) = (nI mi) from q1) q9) (fun c_20 => ?_)
              refine lv_aload_n hx hb dL_bells_89 rfl (lv_at hl 4 rfl) ?_
              refine lv_iload_n hx hb dL_bells_90 rfl (lv_at hl 3 rfl) ?_
              refine lv_iconst (v := 2) hx hb dL_bells_91 (by decide) ?_
              refine x_goI (wn := [(bf, .inl (g.2 0, 28, .inl f))] ++ (CW g ad q)) (x_rV (As := [.int (nI f2), .int 2]) X (c_X5_coming l g ad q (nI f2) 2 _) yf_X5_coming yi_X5_coming wM_L_60 ⟨Nat.le_of_ble_eq_true rfl, Nat.le_of_ble_eq_true rfl⟩ hP hD List.perm_append_comm 0 rfl rfl hl rfl rfl (Nat.le_of_ble_eq_true rfl) dL_bells_92 ⟨Nat.zero_le _, Nat.zero_le _⟩) hP hD hS hA List.perm_append_comm (List.Perm.refl _) (fun H locs hP hD hS => ?_)
              refine lv_iload hx hb dL_bells_95 (lv_at hl 0 rfl) ?_
              refine lv_sipush (v := 660) hx hb dL_bells_97 (by decide) ?_
              refine lv_iadd hx hb dL_bells_100 ?_
              refine lv_bipush (v := 60) hx hb dL_bells_101 (by decide) ?_
              refine lv_idiv hx hb dL_bells_103 (by decide) ?_
              refine lv_bipush (v := 12) hx hb dL_bells_104 (by decide) ?_
              refine lv_irem hx hb dL_bells_106 (by decide) ?_
              refine lv_iconst (v := 1) hx hb dL_bells_107 (by decide) ?_
              refine lv_iadd hx hb dL_bells_108 ?_
              refine lv_icmp_eq (tgt := 114) hx hb dL_bells_109 (by decide) (fun c_21 => ?_) (fun q9 => absurd (show (kComing q (nI f2) 2) = ((jrem (((jrem ((f (7 * i)) + (nI mi)) 720) + 660) / 60) 12) + 1) from q3) (show ¬ ((kComing q (nI f2) 2) = ((jrem (((jrem ((f (7 * i)) + (nI mi)) 720) + 660) / 60) 12) + 1)) from q9))
              refine lv_iinc (v := (nI (f2 + 1))) (lv' := [(2, .int (nI (f2 + 1))), (5, .int (jrem ((f (7 * i)) + (nI mi)) 720)), (4, .int (nI i)), (3, .int (nI mi)), (0, .ref (ad 8 0)), (1, .ref bf)]) hx hb dL_bells_114 hl (k := 3) rfl (nI_add _ 1) (by decide) rfl (fun ls hl => ?_)
              refine lv_iinc (v := (nI (i + 1))) (lv' := [(4, .int (nI (i + 1))), (2, .int (nI (f2 + 1))), (5, .int (jrem ((f (7 * i)) + (nI mi)) 720)), (3, .int (nI mi)), (0, .ref (ad 8 0)), (1, .ref bf)]) hx hb dL_bells_117 hl (k := 2) rfl (nI_add _ 1) (by decide) rfl (fun ls hl => ?_)
              refine lv_goto (tgt := 20) hx hb dL_bells_120 (by decide) ?_
              exact ih (i + 1) (f2 + 1) (by omega) ⟨by omega, fun hlt => by rw [NB_i, if_pos hh, ← eN]⟩ ls _ _ hP hD hS (lv_sub hl [0, 3, 1, 4, 5] rfl)

theorem c_L_bells (l : Launch) (g : wG) (ad : Nat → Nat → Nat) (q : CS) (bf tm cn : Nat) (f k t : Nat → Int32) (S R : Nat → Nat) (h : RQx tm cn q t f k S R) : CtI l g 4 yL_bells cL_bells 6 (some .boolean) [.ref (ad 8 0), .ref bf] (LF g bf f ++ CW g ad q) 1 (LF g bf f ++ CW g ad q) := by
  obtain ⟨D, B, hx9, hf⟩ := l_bells h
  exact c_L_bellsn l g ad q bf f D B hx9 hf 1440 rfl
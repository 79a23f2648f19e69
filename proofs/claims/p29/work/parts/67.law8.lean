/-- a class at the start -/
theorem lw_kn {s : State} {b k N : Nat} {C : String} {T : u_T} (hts : ∀ w ∈ ww, w.before #[Value.ref b] s = true) (hin : ∀ w ∈ u_ws C T N, w ∈ ww) (hn : Cond.instantiable C N ∈ ww) : ∃ (cC : ClassId) (iS : Nat → Nat), u_Kn s C T N cC iS := u_known hts hin (hts _ hn)
theorem lw_arrI {s : State} {b : Nat} {ty : FieldType} (h : (Cond.arrayClass ty).before #[Value.ref b] s = true) (hty : ∀ C, ty ≠ .object C) : ∃ cA, ArrOfT s cA ty ∧ va_RA s cA ty := by
  obtain ⟨cA, k, comp, h1, h2, h3⟩ := Cond.arrayClass_spec h
  refine ⟨cA, fun n z => ⟨fun k h => (by cases h), k, h2, comp, h3⟩, ?_⟩
  cases ty with
  | object C => exact absurd rfl (hty C)
  | _ => exact h1
theorem lw_arrQ {s : State} {C : String} (h : va_AO C s) : ∃ cA, ArrOfT s cA (.object C) ∧ va_RA s cA (.object C) := by
  obtain ⟨comp, cA, k, h1, h2, h3, h4, h5⟩ := Cond.arrayOver_spec h
  exact ⟨cA, fun n z => ⟨fun k h => (by cases h), k, h3, comp, h4⟩, k, comp, h3, h4, h1, h5⟩
set_option maxHeartbeats 4000000 in
set_option maxRecDepth 100000 in
/-- what the start knows of classes -/
theorem lw_g {s : State} {b : Nat} (hts : ∀ w ∈ lw_tbl, w.before #[Value.ref b] s = true) : ∃ g : wG, va_K g.1 vwCl (tysG g) s := by
  have ht2 : ∀ w ∈ ww, w.before #[Value.ref b] s = true := fun w h => hts w (ww_tbl w h)
  obtain ⟨c0, i0, k0⟩ := lw_kn (k := 0) ht2 in_X0 wN_RX0
  obtain ⟨c1, i1, k1⟩ := lw_kn (k := 0) ht2 in_X1 wN_RX1
  obtain ⟨c2, i2, k2⟩ := lw_kn (k := 0) ht2 in_X2 wN_RX2
  obtain ⟨c3, i3, k3⟩ := lw_kn (k := 0) ht2 in_X3 wN_RX3
  obtain ⟨c4, i4, k4⟩ := lw_kn (k := 0) ht2 in_X4 wN_RX4
  obtain ⟨c5, i5, k5⟩ := lw_kn (k := 0) ht2 in_X5 wN_RX5
  obtain ⟨a0, e0⟩ := lw_arrI (ty := .int) (ht2 _ wA_int) (fun C h => by cases h)
  obtain ⟨a1, e1⟩ := lw_arrI (ty := .char) (ht2 _ wA_char) (fun C h => by cases h)
  obtain ⟨a2, e2⟩ := lw_arrQ (C := "TowerFaces$Face") (va_AO.of (hts (.arrayOver (.object "TowerFaces$Face")) (by decide +kernel)))
  obtain ⟨a3, e3⟩ := lw_arrQ (C := "TowerFaces$Tower") (va_AO.of (hts (.arrayOver (.object "TowerFaces$Tower")) (by decide +kernel)))
  refine ⟨((fun k => [c0, c1, c2, c3, c4, c5].getD k 0, fun k => [i0, i1, i2, i3, i4, i5].getD k (fun _ => 0)), fun k => [a0, a1, a2, a3].getD k 0), fun k q hq => ?_, fun k q hq => ?_⟩
  · match k, hq with
    | 0, hq => cases hq; exact k0
    | 1, hq => cases hq; exact k1
    | 2, hq => cases hq; exact k2
    | 3, hq => cases hq; exact k3
    | 4, hq => cases hq; exact k4
    | 5, hq => cases hq; exact k5
    | k + 6, hq => simp [vwCl] at hq
  · match k, hq with
    | 0, hq => cases hq; exact e0
    | 1, hq => cases hq; exact e1
    | 2, hq => cases hq; exact e2
    | 3, hq => cases hq; exact e3
    | k + 4, hq => simp [tysG] at hq
set_option maxHeartbeats 4000000 in
set_option maxRecDepth 100000 in
theorem lw_nst {s : State} {b : Nat} (hts : ∀ w ∈ lw_tbl, w.before #[Value.ref b] s = true) : nst s :=
  ⟨va_Nw.of rfl (hts (.methodLinkNest RX3 60 yX5_isWithin RX5) (by decide +kernel)),
   va_Nw.of rfl (hts (.methodLinkNest RX0 43 yX5_strikesAt RX5) (by decide +kernel)),
   va_Nw.of rfl (hts (.methodLinkNest RX3 105 yX5_distance RX5) (by decide +kernel)),
   va_Nw.of rfl (hts (.methodLinkNest RX2 28 yX5_isWithin RX5) (by decide +kernel)),
   trivial,
   va_Nw.of rfl (hts (.methodLinkNest RX3 19 yX2_init RX5) (by decide +kernel)),
   va_Nw.of rfl (hts (.methodLinkNest RX5 31 yX4_init RX5) (by decide +kernel)),
   va_Nw.of rfl (hts (.fieldLinkNest RX3 31 RX5 "FIRST_SETTING" "[I" RX5) (by decide +kernel))⟩
set_option maxHeartbeats 4000000 in
set_option maxRecDepth 100000 in
theorem lw_stt {s : State} {b : Nat} (hts : ∀ w ∈ lw_tbl, w.before #[Value.ref b] s = true) (hgv : (Jvm.Cond.and given_1 narrow_1).before #[Value.ref b] s = true) : ∃ t : Nat → Nat, Stt t (AL s) s := by
  have hs := flat_of_before _ hgv
  have hA : ∀ a : Nat, a < s.heap.size → ¬ AL s a := fun a h => Nat.not_le.mpr h
  obtain ⟨t0, v0, T0⟩ := va_Tof (tm := (Term.static RX5 "LEAST_SETTING" "[I")) (ty := .int) (N := 3) (f := fun j => .int (sVal 0 j)) (A := AL s) (by decide) (hs (.arrayOf (Term.static RX5 "LEAST_SETTING" "[I") .int) (by decide +kernel)) (va_eqt (hs (.eq (.length (Term.static RX5 "LEAST_SETTING" "[I")) (.int 3)) (by decide +kernel))) (fun j hj => by
    rcases (show j = 0 ∨ j = 1 ∨ j = 2 by omega) with rfl | rfl | rfl
    · exact va_eqt (hs (.eq (.elem (Term.static RX5 "LEAST_SETTING" "[I") (.int 0)) (.int 1)) (by decide +kernel))
    · exact va_eqt (hs (.eq (.elem (Term.static RX5 "LEAST_SETTING" "[I") (.int 1)) (.int 0)) (by decide +kernel))
    · exact va_eqt (hs (.eq (.elem (Term.static RX5 "LEAST_SETTING" "[I") (.int 2)) (.int 100)) (by decide +kernel))) hA
  have Z0 := va_Zof (A := AL s) (hts (.laysStatic RX5 "LEAST_SETTING" "[I") (by decide +kernel)) (hts (.initialized RX5) (by decide +kernel)) v0 hA
  obtain ⟨t1, v1, T1⟩ := va_Tof (tm := (Term.static RX5 "MOST_SETTING" "[I")) (ty := .int) (N := 3) (f := fun j => .int (sVal 1 j)) (A := AL s) (by decide) (hs (.arrayOf (Term.static RX5 "MOST_SETTING" "[I") .int) (by decide +kernel)) (va_eqt (hs (.eq (.length (Term.static RX5 "MOST_SETTING" "[I")) (.int 3)) (by decide +kernel))) (fun j hj => by
    rcases (show j = 0 ∨ j = 1 ∨ j = 2 by omega) with rfl | rfl | rfl
    · exact va_eqt (hs (.eq (.elem (Term.static RX5 "MOST_SETTING" "[I") (.int 0)) (.int 9)) (by decide +kernel))
    · exact va_eqt (hs (.eq (.elem (Term.static RX5 "MOST_SETTING" "[I") (.int 1)) (.int 60)) (by decide +kernel))
    · exact va_eqt (hs (.eq (.elem (Term.static RX5 "MOST_SETTING" "[I") (.int 2)) (.int 5000)) (by decide +kernel))) hA
  have Z1 := va_Zof (A := AL s) (hts (.laysStatic RX5 "MOST_SETTING" "[I") (by decide +kernel)) (hts (.initialized RX5) (by decide +kernel)) v1 hA
  obtain ⟨t2, v2, T2⟩ := va_Tof (tm := (Term.static RX5 "FIRST_SETTING" "[I")) (ty := .int) (N := 3) (f := fun j => .int (sVal 2 j)) (A := AL s) (by decide) (hs (.arrayOf (Term.static RX5 "FIRST_SETTING" "[I") .int) (by decide +kernel)) (va_eqt (hs (.eq (.length (Term.static RX5 "FIRST_SETTING" "[I")) (.int 3)) (by decide +kernel))) (fun j hj => by
    rcases (show j = 0 ∨ j = 1 ∨ j = 2 by omega) with rfl | rfl | rfl
    · exact va_eqt (hs (.eq (.elem (Term.static RX5 "FIRST_SETTING" "[I") (.int 0)) (.int 3)) (by decide +kernel))
    · exact va_eqt (hs (.eq (.elem (Term.static RX5 "FIRST_SETTING" "[I") (.int 1)) (.int 1)) (by decide +kernel))
    · exact va_eqt (hs (.eq (.elem (Term.static RX5 "FIRST_SETTING" "[I") (.int 2)) (.int 600)) (by decide +kernel))) hA
  have Z2 := va_Zof (A := AL s) (hts (.laysStatic RX5 "FIRST_SETTING" "[I") (by decide +kernel)) (hts (.initialized RX5) (by decide +kernel)) v2 hA
  exact ⟨fun k => [t0, t1, t2].getD k 0, va_AO.of (hts (.arrayOver (.object "TowerFaces$Face")) (by decide +kernel)), va_AO.of (hts (.arrayOver (.object "TowerFaces$Tower")) (by decide +kernel)), Z0, T0, Z1, T1, Z2, T2⟩
def lF0 : RI := (upd (upd (upd (upd (upd (fun _ => 0) 5 1) 1 (20 + (10 * 0))) 8 (20 + (10 * 1))) 15 (20 + (10 * 2))) 22 (20 + (10 * 3)))
def lT0 : RI := (upd (upd (upd (fun _ => 0) 1 3) 2 1) 3 600)
theorem rel_0 : RQx 0 0 q0C lT0 lF0 (fun _ => 0) (fun _ => 0) (fun _ => 0) := by
  refine ⟨fun i hi => ?_, fun k hk => ?_, ⟨?_, ?_, ?_, ?_⟩, by decide +kernel, by decide +kernel, by omega, fun k hk => absurd hk (by omega), fun k hk => absurd hk (by omega), fun k hk => absurd hk (by omega), fun i j hi => absurd hi (by omega), fun i j _ hj => absurd hj (by omega), fun k hk => absurd hk (by omega), fun k hk => absurd hk (by omega)⟩
  · have key : ∀ i, i < 36 → (i = 0 ∨ 4 ≤ i) → z0 i = zc lT0 lF0 (fun _ => 0) i := by decide +kernel
    exact key i (by omega) (by omega)
  · have key : ∀ k, k < 3 → sVal 2 k = lT0 (1 + k) := by decide +kernel
    exact key k hk
  · exact ⟨⟨0, by omega, by decide +kernel⟩, ⟨0, by omega, by decide +kernel⟩, Or.inr (by decide +kernel)⟩
  · exact ⟨⟨0, by omega, by decide +kernel⟩, ⟨0, by omega, by decide +kernel⟩, Or.inl (by decide +kernel)⟩
  · exact ⟨⟨0, by omega, by decide +kernel⟩, ⟨0, by omega, by decide +kernel⟩, Or.inl (by decide +kernel)⟩
  · exact ⟨⟨0, by omega, by decide +kernel⟩, ⟨0, by omega, by decide +kernel⟩, Or.inl (by decide +kernel)⟩
set_option maxHeartbeats 4000000 in
set_option maxRecDepth 100000 in
theorem whole_start {p : Program} {e : Env} {s : State} {m : MethodId} {below : List Frame} {meth : Method} {c : Code} (l : Launch) (hflags : l.flags = flags0) {b L : Nat} {xs : Nat → Int32} (hL : L ≤ 260) (C0 : lw_At p s m meth c b L xs) : W p l e room_1 s m #[Value.ref b] below meth c s.heap [] 0 0 (lw_Z below #[Value.ref b] s) (entryFrame m ([Value.ref b] : List Value).toArray 22) := by
  obtain ⟨hx, hb, hr, hml, hown, hts, hX, hbl, hlocks, hgv⟩ := id C0
  obtain ⟨g, hK⟩ := lw_g hts
  obtain ⟨tt, hZ⟩ := lw_stt hts hgv
  have X : Sx p m c code 22 s #[Value.ref b] RL g := ⟨⟨hx, hb, hml, hown, fun w h => hts w (ww_tbl w h)⟩, hK, lw_nst hts⟩
  have hA : ∀ a : Nat, s.heap.size ≤ a → AL s a := fun _ h => h
  have hT : va_T .int b L (fun j => .int (xs j)) (AL s) s s.heap := by
    obtain ⟨scr, h1, h2, h3, h4, h5⟩ := hX
    exact ⟨scr, h1, h2, h3, by omega, by rw [h4], h5, Nat.not_le.mpr hbl⟩
  have Z : LwX p s m c g tt b L xs (AL s) := ⟨X, hZ, hT, hL, hA⟩
  have hS : va_S (AL s) s.heap s.heap [] := va_S.rf
  have hP : va_P g.1 vwCl [] s.heap := fun k q h => by simp at h
  have hD : va_D (AL s) [] := ⟨fun i j p q h => by simp at h, fun k q h => by simp at h⟩
  have hl := lv_entry ([.ref b]) (n := 22) (Nat.le_of_ble_eq_true rfl)
  rw [lg_entry_eq]
  generalize (lg_sl ([.ref b]) ++ List.replicate (22 - (lg_sl ([.ref b])).length) Slot.unset).toArray = ls at hl ⊢
  have hl : lv_has ls 22 [(0, .ref b)] := hl
  refine x_new (ci := 5) (fs := [.null, .null, .null, .int 0, .null, .null]) (C := RX5) (T := TX5) (N := 6) X in_X5 tyX5_ok wK_L_29 wN_RX5 wI_RX5 hP hD hS hA rfl (fun j hj => by rcases (show j = 0 ∨ j = 1 ∨ j = 2 ∨ j = 3 ∨ j = 4 ∨ j = 5 by omega) with rfl | rfl | rfl | rfl | rfl | rfl <;> rfl) (Nat.le_of_ble_eq_true rfl) (Nat.le_of_ble_eq_true rfl) dL_law_0 (fun q1 H hP hD hS => ?_)
  have hP : va_P g.1 vwCl [(q1, .inr (5, [.null, .null, .null, .int 0, .null, .null]))] H := hP
  have hD : va_D (AL s) [(q1, .inr (5, [.null, .null, .null, .int 0, .null, .null]))] := hD
  refine lv_dup hx hb dL_law_3 rfl ?_
  refine x_goA (wn := fun u => CW g (fun i j => u (i + 9 * j)) q0C) (x_rI (As := []) X hZ (c_X5_init l g tt q1 _) yf_X5_init rfl yo_X5_init wM_L_63 ⟨Nat.le_of_ble_eq_true rfl, Nat.le_of_ble_eq_true rfl⟩ hP hD hS hA (p_all _) hl rfl rfl (Nat.le_of_ble_eq_true rfl) dL_law_4 ⟨Nat.le_of_ble_eq_true rfl, Nat.le_of_ble_eq_true rfl⟩) hP hD hS hA (p_all _) (fun u => p_back _) (fun u H locs hu hP2 hD2 hS2 => ?_)
  have hu : u 8 = q1 := hu
  subst hu
  obtain ⟨ad, had⟩ : ∃ ad : Nat → Nat → Nat, ad = fun i j => u (i + 9 * j) := ⟨_, rfl⟩
  have h80 : u 8 = ad 8 0 := by rw [had]
  have hP := hP2; have hD := hD2; have hS := hS2
  rw [← had] at hP hD
  rw [h80]
  have hP : va_P g.1 vwCl ([] ++ (CW g ad q0C)) H := hP
  have hD : va_D (AL s) ([] ++ (CW g ad q0C)) := hD
  refine lv_astore_n (lv' := [(1, .ref (ad 8 0)), (0, .ref b)]) hx hb dL_law_7 rfl hl (by decide) rfl (fun ls hl => ?_)
  refine lv_bipush (v := 28) hx hb dL_law_8 (by decide) ?_
  refine x_newI (n := 28) X wA_int hP hD hS hA rfl (by decide) (show 0 + 1 + 84 + 1 ≤ 600000 from by omega) (show 0 + 6 + 531 + 28 ≤ 7302250 from by omega) dL_law_10 (fun q_1 H hP hD hS => ?_)
  have hP : va_P g.1 vwCl ([(q_1, .inl (g.2 0, 28, .inl (fun _ => 0)))] ++ (CW g ad q0C)) H := wo_P_perm (perm_tl _ _ _) hP
  have hD : va_D (AL s) ([(q_1, .inl (g.2 0, 28, .inl (fun _ => 0)))] ++ (CW g ad q0C)) := wo_D_perm (perm_tl _ _ _) hD
  refine lv_astore_n (lv' := [(2, .ref q_1), (1, .ref (ad 8 0)), (0, .ref b)]) hx hb dL_law_12 rfl hl (by decide) rfl (fun ls hl => ?_)
  refine lv_bipush (v := 12) hx hb dL_law_13 (by decide) ?_
  refine x_newI (n := 12) X wA_int hP hD hS hA rfl (by decide) (show 0 + 1 + 84 + 1 + 1 ≤ 600000 from by omega) (show 0 + 6 + 531 + 28 + 12 ≤ 7302250 from by omega) dL_law_15 (fun q_2 H hP hD hS => ?_)
  have hP : va_P g.1 vwCl ([(q_1, .inl (g.2 0, 28, .inl (fun _ => 0))), (q_2, .inl (g.2 0, 12, .inl (fun _ => 0)))] ++ (CW g ad q0C)) H := wo_P_perm (perm_tl _ _ _) hP
  have hD : va_D (AL s) ([(q_1, .inl (g.2 0, 28, .inl (fun _ => 0))), (q_2, .inl (g.2 0, 12, .inl (fun _ => 0)))] ++ (CW g ad q0C)) := wo_D_perm (perm_tl _ _ _) hD
  refine lv_astore_n (lv' := [(3, .ref q_2), (2, .ref q_1), (1, .ref (ad 8 0)), (0, .ref b)]) hx hb dL_law_17 rfl hl (by decide) rfl (fun ls hl => ?_)
  refine lv_bipush (v := 8) hx hb dL_law_18 (by decide) ?_
  refine x_newI (n := 8) X wA_int hP hD hS hA rfl (by decide) (show 0 + 1 + 84 + 1 + 1 + 1 ≤ 600000 from by omega) (show 0 + 6 + 531 + 28 + 12 + 8 ≤ 7302250 from by omega) dL_law_20 (fun q_3 H hP hD hS => ?_)
  have hP : va_P g.1 vwCl ([(q_1, .inl (g.2 0, 28, .inl (fun _ => 0))), (q_2, .inl (g.2 0, 12, .inl (fun _ => 0))), (q_3, .inl (g.2 0, 8, .inl (fun _ => 0)))] ++ (CW g ad q0C)) H := wo_P_perm (perm_tl _ _ _) hP
  have hD : va_D (AL s) ([(q_1, .inl (g.2 0, 28, .inl (fun _ => 0))), (q_2, .inl (g.2 0, 12, .inl (fun _ => 0))), (q_3, .inl (g.2 0, 8, .inl (fun _ => 0)))] ++ (CW g ad q0C)) := wo_D_perm (perm_tl _ _ _) hD
  refine lv_astore (lv' := [(4, .ref q_3), (3, .ref q_2), (2, .ref q_1), (1, .ref (ad 8 0)), (0, .ref b)]) hx hb dL_law_22 hl (by decide) rfl (fun ls hl => ?_)
  refine lv_aload hx hb dL_law_24 (lv_at hl 0 rfl) ?_
  refine lv_iconst (v := 1) hx hb dL_law_26 (by decide) ?_
  refine lv_iconst (v := 3) hx hb dL_law_27 (by decide) ?_
  refine x_iast (ws2 := [(q_1, .inl (g.2 0, 28, .inl (fun _ => 0))), (q_2, .inl (g.2 0, 12, .inl (fun _ => 0))), (q_3, .inl (g.2 0, 8, .inl (upd (fun _ => 0) 1 3)))] ++ (CW g ad q0C)) X 2 1 hP hD hS rfl rfl (by decide) (Nat.le_of_ble_eq_true rfl) rfl dL_law_28 (fun H locs hP hD hS => ?_)
  refine lv_aload hx hb dL_law_29 (lv_at hl 0 rfl) ?_
  refine lv_iconst (v := 2) hx hb dL_law_31 (by decide) ?_
  refine lv_iconst (v := 1) hx hb dL_law_32 (by decide) ?_
  refine x_iast (ws2 := [(q_1, .inl (g.2 0, 28, .inl (fun _ => 0))), (q_2, .inl (g.2 0, 12, .inl (fun _ => 0))), (q_3, .inl (g.2 0, 8, .inl (upd (upd (fun _ => 0) 1 3) 2 1)))] ++ (CW g ad q0C)) X 2 2 hP hD hS rfl rfl (by decide) (Nat.le_of_ble_eq_true rfl) rfl dL_law_33 (fun H locs hP hD hS => ?_)
  refine lv_aload hx hb dL_law_34 (lv_at hl 0 rfl) ?_
  refine lv_iconst (v := 3) hx hb dL_law_36 (by decide) ?_
  refine lv_sipush (v := 600) hx hb dL_law_37 (by decide) ?_
  refine x_iast (ws2 := [(q_1, .inl (g.2 0, 28, .inl (fun _ => 0))), (q_2, .inl (g.2 0, 12, .inl (fun _ => 0))), (q_3, .inl (g.2 0, 8, .inl (upd (upd (upd (fun _ => 0) 1 3) 2 1) 3 600)))] ++ (CW g ad q0C)) X 2 3 hP hD hS rfl rfl (by decide) (Nat.le_of_ble_eq_true rfl) rfl dL_law_40 (fun H locs hP hD hS => ?_)
  refine lv_aload_n hx hb dL_law_41 rfl (lv_at hl 2 rfl) ?_
  refine lv_iconst (v := 5) hx hb dL_law_42 (by decide) ?_
  refine lv_iconst (v := 1) hx hb dL_law_43 (by decide) ?_
  refine x_iast (ws2 := [(q_1, .inl (g.2 0, 28, .inl (upd (fun _ => 0) 5 1))), (q_2, .inl (g.2 0, 12, .inl (fun _ => 0))), (q_3, .inl (g.2 0, 8, .inl (upd (upd (upd (fun _ => 0) 1 3) 2 1) 3 600)))] ++ (CW g ad q0C)) X 0 5 hP hD hS rfl rfl (by decide) (Nat.le_of_ble_eq_true rfl) rfl dL_law_44 (fun H locs hP hD hS => ?_)
  refine lv_iconst (v := 0) hx hb dL_law_45 (by decide) ?_
  refine lv_istore (lv' := [(5, .int 0), (4, .ref q_3), (3, .ref q_2), (2, .ref q_1), (1, .ref (ad 8 0)), (0, .ref b)]) hx hb dL_law_46 hl (by decide) rfl (fun ls hl => ?_)
  refine lv_iload hx hb dL_law_48 (lv_at hl 0 rfl) ?_
  refine lv_iconst (v := 4) hx hb dL_law_50 (by decide) ?_
  refine lv_icmp_ge (tgt := 77) hx hb dL_law_51 (by decide) (fun q9 => absurd q9 (show ¬ (4 : Int32) ≤ (0 : Int32) from (by decide))) (fun c_1 => ?_)
  refine lv_aload_n hx hb dL_law_54 rfl (lv_at hl 3 rfl) ?_
  refine lv_bipush (v := 7) hx hb dL_law_55 (by decide) ?_
  refine lv_iload hx hb dL_law_57 (lv_at hl 0 rfl) ?_
  refine lv_imul hx hb dL_law_59 ?_
  refine lv_iconst (v := 1) hx hb dL_law_60 (by decide) ?_
  refine lv_iadd hx hb dL_law_61 ?_
  refine lv_bipush (v := 20) hx hb dL_law_62 (by decide) ?_
  refine lv_bipush (v := 10) hx hb dL_law_64 (by decide) ?_
  refine lv_iload hx hb dL_law_66 (lv_at hl 0 rfl) ?_
  refine lv_imul hx hb dL_law_68 ?_
  refine lv_iadd hx hb dL_law_69 ?_
  refine x_iast (ws2 := [(q_1, .inl (g.2 0, 28, .inl (upd (upd (fun _ => 0) 5 1) 1 (20 + (10 * 0))))), (q_2, .inl (g.2 0, 12, .inl (fun _ => 0))), (q_3, .inl (g.2 0, 8, .inl (upd (upd (upd (fun _ => 0) 1 3) 2 1) 3 600)))] ++ (CW g ad q0C)) X 0 1 hP hD hS rfl (by decide) (by decide) (Nat.le_of_ble_eq_true rfl) rfl dL_law_70 (fun H locs hP hD hS => ?_)
  refine lv_iinc (v := 1) (lv' := [(5, .int 1), (4, .ref q_3), (3, .ref q_2), (2, .ref q_1), (1, .ref (ad 8 0)), (0, .ref b)]) hx hb dL_law_71 hl (k := 0) rfl rfl (by decide) rfl (fun ls hl => ?_)
  refine lv_goto (tgt := 48) hx hb dL_law_74 (by decide) ?_
  refine lv_iload hx hb dL_law_48 (lv_at hl 0 rfl) ?_
  refine lv_iconst (v := 4) hx hb dL_law_50 (by decide) ?_
  refine lv_icmp_ge (tgt := 77) hx hb dL_law_51 (by decide) (fun q9 => absurd q9 (show ¬ (4 : Int32) ≤ (1 : Int32) from (by decide))) (fun c_2 => ?_)
  refine lv_aload_n hx hb dL_law_54 rfl (lv_at hl 3 rfl) ?_
  refine lv_bipush (v := 7) hx hb dL_law_55 (by decide) ?_
  refine lv_iload hx hb dL_law_57 (lv_at hl 0 rfl) ?_
  refine lv_imul hx hb dL_law_59 ?_
  refine lv_iconst (v := 1) hx hb dL_law_60 (by decide) ?_
  refine lv_iadd hx hb dL_law_61 ?_
  refine lv_bipush (v := 20) hx hb dL_law_62 (by decide) ?_
  refine lv_bipush (v := 10) hx hb dL_law_64 (by decide) ?_
  refine lv_iload hx hb dL_law_66 (lv_at hl 0 rfl) ?_
  refine lv_imul hx hb dL_law_68 ?_
  refine lv_iadd hx hb dL_law_69 ?_
  refine x_iast (ws2 := [(q_1, .inl (g.2 0, 28, .inl (upd (upd (upd (fun _ => 0) 5 1) 1 (20 + (10 * 0))) 8 (20 + (10 * 1))))), (q_2, .inl (g.2 0, 12, .inl (fun _ => 0))), (q_3, .inl (g.2 0, 8, .inl (upd (upd (upd (fun _ => 0) 1 3) 2 1) 3 600)))] ++ (CW g ad q0C)) X 0 8 hP hD hS rfl (by decide) (by decide) (Nat.le_of_ble_eq_true rfl) rfl dL_law_70 (fun H locs hP hD hS => ?_)
  refine lv_iinc (v := 2) (lv' := [(5, .int 2), (4, .ref q_3), (3, .ref q_2), (2, .ref q_1), (1, .ref (ad 8 0)), (0, .ref b)]) hx hb dL_law_71 hl (k := 0) rfl rfl (by decide) rfl (fun ls hl => ?_)
  refine lv_goto (tgt := 48) hx hb dL_law_74 (by decide) ?_
  refine lv_iload hx hb dL_law_48 (lv_at hl 0 rfl) ?_
  refine lv_iconst (v := 4) hx hb dL_law_50 (by decide) ?_
  refine lv_icmp_ge (tgt := 77) hx hb dL_law_51 (by decide) (fun q9 => absurd q9 (show ¬ (4 : Int32) ≤ (2 : Int32) from (by decide))) (fun c_3 => ?_)
  refine lv_aload_n hx hb dL_law_54 rfl (lv_at hl 3 rfl) ?_
  refine lv_bipush (v := 7) hx hb dL_law_55 (by decide) ?_
  refine lv_iload hx hb dL_law_57 (lv_at hl 0 rfl) ?_
  refine lv_imul hx hb dL_law_59 ?_
  refine lv_iconst (v := 1) hx hb dL_law_60 (by decide) ?_
  refine lv_iadd hx hb dL_law_61 ?_
  refine lv_bipush (v := 20) hx hb dL_law_62 (by decide) ?_
  refine lv_bipush (v := 10) hx hb dL_law_64 (by decide) ?_
  refine lv_iload hx hb dL_law_66 (lv_at hl 0 rfl) ?_
  refine lv_imul hx hb dL_law_68 ?_
  refine lv_iadd hx hb dL_law_69 ?_
  refine x_iast (ws2 := [(q_1, .inl (g.2 0, 28, .inl (upd (upd (upd (upd (fun _ => 0) 5 1) 1 (20 + (10 * 0))) 8 (20 + (10 * 1))) 15 (20 + (10 * 2))))), (q_2, .inl (g.2 0, 12, .inl (fun _ => 0))), (q_3, .inl (g.2 0, 8, .inl (upd (upd (upd (fun _ => 0) 1 3) 2 1) 3 600)))] ++ (CW g ad q0C)) X 0 15 hP hD hS rfl (by decide) (by decide) (Nat.le_of_ble_eq_true rfl) rfl dL_law_70 (fun H locs hP hD hS => ?_)
  refine lv_iinc (v := 3) (lv' := [(5, .int 3), (4, .ref q_3), (3, .ref q_2), (2, .ref q_1), (1, .ref (ad 8 0)), (0, .ref b)]) hx hb dL_law_71 hl (k := 0) rfl rfl (by decide) rfl (fun ls hl => ?_)
  refine lv_goto (tgt := 48) hx hb dL_law_74 (by decide) ?_
  refine lv_iload hx hb dL_law_48 (lv_at hl 0 rfl) ?_
  refine lv_iconst (v := 4) hx hb dL_law_50 (by decide) ?_
  refine lv_icmp_ge (tgt := 77) hx hb dL_law_51 (by decide) (fun q9 => absurd q9 (show ¬ (4 : Int32) ≤ (3 : Int32) from (by decide))) (fun c_4 => ?_)
  refine lv_aload_n hx hb dL_law_54 rfl (lv_at hl 3 rfl) ?_
  refine lv_bipush (v := 7) hx hb dL_law_55 (by decide) ?_
  refine lv_iload hx hb dL_law_57 (lv_at hl 0 rfl) ?_
  refine lv_imul hx hb dL_law_59 ?_
  refine lv_iconst (v := 1) hx hb dL_law_60 (by decide) ?_
  refine lv_iadd hx hb dL_law_61 ?_
  refine lv_bipush (v := 20) hx hb dL_law_62 (by decide) ?_
  refine lv_bipush (v := 10) hx hb dL_law_64 (by decide) ?_
  refine lv_iload hx hb dL_law_66 (lv_at hl 0 rfl) ?_
  refine lv_imul hx hb dL_law_68 ?_
  refine lv_iadd hx hb dL_law_69 ?_
  refine x_iast (ws2 := [(q_1, .inl (g.2 0, 28, .inl (upd (upd (upd (upd (upd (fun _ => 0) 5 1) 1 (20 + (10 * 0))) 8 (20 + (10 * 1))) 15 (20 + (10 * 2))) 22 (20 + (10 * 3))))), (q_2, .inl (g.2 0, 12, .inl (fun _ => 0))), (q_3, .inl (g.2 0, 8, .inl (upd (upd (upd (fun _ => 0) 1 3) 2 1) 3 600)))] ++ (CW g ad q0C)) X 0 22 hP hD hS rfl (by decide) (by decide) (Nat.le_of_ble_eq_true rfl) rfl dL_law_70 (fun H locs hP hD hS => ?_)
  refine lv_iinc (v := 4) (lv' := [(5, .int 4), (4, .ref q_3), (3, .ref q_2), (2, .ref q_1), (1, .ref (ad 8 0)), (0, .ref b)]) hx hb dL_law_71 hl (k := 0) rfl rfl (by decide) rfl (fun ls hl => ?_)
  refine lv_goto (tgt := 48) hx hb dL_law_74 (by decide) ?_
  refine lv_iload hx hb dL_law_48 (lv_at hl 0 rfl) ?_
  refine lv_iconst (v := 4) hx hb dL_law_50 (by decide) ?_
  refine lv_icmp_ge (tgt := 77) hx hb dL_law_51 (by decide) (fun c_5 => ?_) (fun q9 => absurd (show (4 : Int32) ≤ (4 : Int32) from (by decide)) (show ¬ ((4 : Int32) ≤ (4 : Int32)) from q9))
  refine lv_iconst (v := 0) hx hb dL_law_77 (by decide) ?_
  refine lv_istore (lv' := [(5, .int 0), (4, .ref q_3), (3, .ref q_2), (2, .ref q_1), (1, .ref (ad 8 0)), (0, .ref b)]) hx hb dL_law_78 hl (by decide) rfl (fun ls hl => ?_)
  refine W.widen (k := 88 + 10 * 0) (n := 585 + 180 * 0) (by omega) (by omega) ?_
  exact lw_loop (ad := ad) (bf := q_1) (bk := q_2) (bt := q_3) Z (fun _ h => h) hr hlocks 36 0 rfl 0 0 q0C lT0 lF0 (fun _ => 0) (fun _ => 0) (fun _ => 0) rel_0 (by decide) (Nat.le_refl 0) ls _ _ hP hD hS (lv_sub hl [0, 4, 3, 2, 1, 5] rfl)

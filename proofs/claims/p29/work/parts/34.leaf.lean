/-! the law's own methods -/
def cellF (L : Nat) (xs : Nat → Int32) (e : Nat) : Int32 := if e < L then xs e else 32452867 * nI e + 15485863
def CwX (g : wG) (b L : Nat) (xs : Nat → Int32) (sz : Nat) (U : State) : Prop := Cw g [] sz U ∧ va_T .int b L (fun j => .int (xs j)) (va_A [] sz) U U.heap
theorem CwX_blind {g : wG} {b L : Nat} {xs : Nat → Int32} {sz : Nat} {As : List Value} : FrameBlind (va_Pc As (CwX g b L xs sz)) := fun a U fr mk q => by
  obtain ⟨q0, ⟨q1, qP, qK, qD, qN⟩, qS⟩ := q
  exact ⟨q0, ⟨q1, qP, va_K.moved (u := U) (U := U.calling fr mk a) (Vm.Alike.refl U.vm) qK, qD, nst_same (u := U) (U := U.calling fr mk a) rfl qN⟩, va_T.moved (u := U) (U := U.calling fr mk a) (Vm.Alike.refl U.vm) qS⟩
theorem x_enterX {l : Launch} {g : wG} {b L : Nat} {xs : Nat → Int32} {d : Nat} {y : MethodName} {cc : ByteArray} {n : Nat} {ret : Option FieldType} {As : List Value} {sz : Nat} {Qc : (Nat → Prop) → Array Value → State → Outcome → State → Prop}
    (hy : plainName y.cls = true) (hn : (lg_sl As).length ≤ n)
    (body : ∀ p e s m args below meth c, Sx p m c cc n s args y.cls g → meth.sig.returnType = ret → meth.locks = false → ∀ A : Nat → Prop, va_T .int b L (fun j => .int (xs j)) A s s.heap → (∀ q, s.heap.size ≤ q → A q) → va_P g.1 vwCl [] s.heap → va_D A [] → va_S A s.heap s.heap [] → ∀ ls : Array Slot, lv_has ls n (lv_args 0 As) →
      W p l e (rmD d) s m args below meth c s.heap [] 0 0 (MQ below (Qc A) args s 0 0 A) (F0 m 0 ls [])) :
    Met l y (.code y cc n ret :: ww) (rmD d) (va_Pc As (CwX g b L xs sz)) (Qc (va_A [] sz)) 0 0 (va_A [] sz) := by
  refine Met.ofW (cc := cc) (maxL := n) (ret := ret) hy rfl ?_
  intro p e s m args below meth c s₁ B hml hv
  obtain ⟨rfl, ⟨hsz, hP, hK, hD0, hN⟩, hZ⟩ := hv
  have hts := atoms_spec (ws := .code y cc n ret :: ww) B.pre
  have hown : s.vm.findClass y.cls = some m.cls := findClass_of_methodNamed B.named
  subst hsz
  have hl := lv_entry As (n := n) hn
  rw [lg_entry_eq]
  generalize (lg_sl As ++ List.replicate (n - (lg_sl As).length) Slot.unset).toArray = ls at hl ⊢
  exact body p e s m _ below meth c ⟨⟨B.exec, B.bytes, hml, hown, fun w hw => hts w (List.mem_cons_of_mem _ hw)⟩, hK, hN⟩ B.returns B.notSynchronized (va_A [] s.heap.size) hZ (fun q h => Or.inr h) hP hD0.self va_S.rf ls hl
set_option maxHeartbeats 4000000 in
set_option maxRecDepth 100000 in
theorem c_L_cell (l : Launch) (g : wG) (b L : Nat) (xs : Nat → Int32) (hL : L < 2 ^ 31) (k : Nat) (hk : k < 2 ^ 31) (sz : Nat) :
    Met l yL_cell (.code yL_cell cL_cell 2 (some .int) :: ww) (rmD 0) (va_Pc [.ref b, .int (nI k)] (CwX g b L xs sz)) (QI g (va_A [] sz) (cellF L xs k) []) 0 0 (va_A [] sz) := by
  refine x_enterX (Qc := fun A => QI g A (cellF L xs k) []) (by decide) (Nat.le_of_ble_eq_true rfl) ?_
  intro p e s m args below meth c X hr hlocks A hT hA hP hD hS ls hl
  obtain ⟨⟨hx, hb, hml, hown, hts⟩, hK, hN⟩ := id X
  have hl : lv_has ls 2 [(0, .ref b), (1, .int (nI k))] := hl
  refine lv_iload_n hx hb dL_cell_0 rfl (lv_at hl 1 rfl) ?_
  refine lv_aload_n hx hb dL_cell_1 rfl (lv_at hl 0 rfl) ?_
  refine va_tlen hx hb hT hS (v := nI L) rfl dL_cell_2 ?_
  refine lv_icmp_ge (tgt := 12) hx hb dL_cell_3 (by decide) (fun (c_1 : nI L ≤ nI k) => ?_) (fun (c_1 : ¬ nI L ≤ nI k) => ?_)
  · have h1 : ¬ k < L := fun h => (nI_ge h hL) c_1
    refine lv_ldc (v := 32452867) hx hb hown (hts _ wT_L_7) dL_cell_12 ?_
    refine lv_iload_n hx hb dL_cell_14 rfl (lv_at hl 1 rfl) ?_
    refine lv_imul hx hb dL_cell_15 ?_
    refine lv_ldc (v := 15485863) hx hb hown (hts _ wT_L_8) dL_cell_16 ?_
    refine lv_iadd hx hb dL_cell_18 ?_
    exact x_iret X hr hlocks hP hD hS (by unfold cellF; rw [if_neg h1]) dL_cell_19
  · have h1 : k < L := by
      rcases Nat.lt_or_ge k L with h | h
      · exact h
      · exact absurd (nI_le h hk) c_1
    refine lv_aload_n hx hb dL_cell_6 rfl (lv_at hl 0 rfl) ?_
    refine lv_iload_n hx hb dL_cell_7 rfl (lv_at hl 1 rfl) ?_
    refine va_ti (v := .int (xs k)) hx hb hT hS (vp_in_nI h1 hL) (by rw [nI_clamp hk]) dL_cell_8 ?_
    refine lv_goto (tgt := 19) hx hb dL_cell_9 (by decide) ?_
    exact x_iret X hr hlocks hP hD hS (by unfold cellF; rw [if_pos h1]) dL_cell_19
/-- a return of an array's reference -/
theorem x_aretA {p : Program} {l : Launch} {e : Env} {R : Room} {s : State} {m : MethodId} {args : Array Value} {below : List Frame} {meth : Method} {c : Code} {H : Heap} {locs : List Loc} {cc : ByteArray} {pc nL : Nat} {ls : Array Slot} {g : wG} {A : Nat → Prop} {own : String} {rq : Option Nat} {v : Value} {w1 : va_W} {ty : FieldType} (X : Sx p m c cc nL s args own g) (hr : meth.sig.returnType = some (.array ty)) (hlocks : meth.locks = false) (hP : va_P g.1 vwCl w1 H) (hD : va_D A w1) (hS : va_S A s.heap H locs) (ev : v = va_rf rq) (hdg : decode cc pc = .ok (.areturn, 1)) :
    W p l e R s m args below meth c H locs 0 0 (MQ below (QQ g A rq w1) args s 0 0 A) (F0 m pc ls [v]) := by
  subst ev
  exact W.aret X.1.1 X.1.2.1 hr (Or.inr ⟨ty, rfl⟩) (va_rf_or rq) (fun t ht hW => ⟨⟨rq, (), rfl, rfl, by rw [ht]; exact hP, hD⟩, hS.F ht⟩) hS.2.2 hdg hlocks
def lowF (v n : Int32) : Int32 := jrem (v &&& 2147483647) n
theorem low_n (v : Int32) {n : Nat} (h0 : 0 < n) (hn : n < 2 ^ 31) : ∃ j, j < n ∧ lowF v (nI n) = nI j := by
  have h : ¬ (v &&& 2147483647) < 0 := by
    intro q
    have h2 : (v &&& 2147483647).toBitVec.msb = true := by
      have h3 := Int32.lt_iff_toInt_lt.mp q
      rw [BitVec.msb_eq_toInt]
      exact decide_eq_true h3
    have h4 : (v &&& 2147483647).toBitVec = v.toBitVec &&& 2147483647#32 := rfl
    rw [h4, BitVec.msb_and] at h2
    have h5 : (2147483647#32 : BitVec 32).msb = false := by decide
    rw [h5, Bool.and_false] at h2
    exact absurd h2 (by decide)
  obtain ⟨a, ha, e⟩ := nI_of h
  exact ⟨a % n, Nat.mod_lt _ h0, by unfold lowF; rw [e]; exact za_rem ha h0 hn⟩
set_option maxHeartbeats 4000000 in
set_option maxRecDepth 100000 in
theorem c_L_low (l : Launch) (g : wG) (v n : Int32) (hn : ¬ n = 0) : CtI l g 0 yL_low cL_low 2 (some .int) [.int v, .int n] ([]) (lowF v n) ([]) := by
  intro sz
  refine x_enter (Qc := fun A => QI g A (lowF v n) ([])) (by decide) (Nat.le_of_ble_eq_true rfl) ?_
  intro p e s m args below meth c X hr hlocks A hA hP hD hS ls hl
  obtain ⟨⟨hx, hb, hml, hown, hts⟩, hK, hN⟩ := id X
  have hl : lv_has ls 2 [(0, .int v), (1, .int n)] := hl
  refine lv_iload_n hx hb dL_low_0 rfl (lv_at hl 0 rfl) ?_
  refine lv_ldc (v := 2147483647) hx hb hown (hts _ wT_L_9) dL_low_1 ?_
  refine lv_iand hx hb dL_low_3 ?_
  refine lv_iload_n hx hb dL_low_4 rfl (lv_at hl 1 rfl) ?_
  refine lv_irem hx hb dL_low_5 hn ?_
  exact x_iret X hr hlocks hP hD hS rfl dL_low_6

theorem c_L_lowj (l : Launch) (g : wG) (v n : Int32) (j : Nat) (hn : ¬ n = 0) (hj : lowF v n = nI j) : CtI l g 0 yL_low cL_low 2 (some .int) [.int v, .int n] ([]) (nI j) ([]) := by
  rw [← hj]; exact c_L_low l g v n hn
theorem ap_ne {a b w : Nat} (ha : a < 720) (hb : b < 720) (hw : w < dN a b) : ¬ jrem (nI a + nI w) 720 = nI b ∧ ¬ jrem (nI b + nI w) 720 = nI a := by
  have h := dN_le ha hb
  have e1 : jrem (nI a + nI w) 720 = nI ((a + w) % 720) := by rw [nI_add]; exact za_r720 (by omega)
  have e2 : jrem (nI b + nI w) 720 = nI ((b + w) % 720) := by rw [nI_add]; exact za_r720 (by omega)
  rw [e1, e2]
  refine ⟨fun q => ?_, fun q => ?_⟩
  · have := (nI_eq (by omega) (by omega)).mp q
    unfold dN at hw; split at hw <;> omega
  · have := (nI_eq (by omega) (by omega)).mp q
    unfold dN at hw; split at hw <;> omega
theorem ap_eq {a b w : Nat} (ha : a < 720) (hb : b < 720) (hw : w = dN a b) (h1 : ¬ jrem (nI a + nI w) 720 = nI b) : jrem (nI b + nI w) 720 = nI a := by
  have h := dN_le ha hb
  have e1 : jrem (nI a + nI w) 720 = nI ((a + w) % 720) := by rw [nI_add]; exact za_r720 (by omega)
  have e2 : jrem (nI b + nI w) 720 = nI ((b + w) % 720) := by rw [nI_add]; exact za_r720 (by omega)
  rw [e1] at h1
  rw [e2]
  have h2 : ¬ (a + w) % 720 = b := fun q => h1 (by rw [q])
  refine congrArg nI ?_
  unfold dN at hw; split at hw <;> omega
set_option maxHeartbeats 4000000 in
set_option maxRecDepth 100000 in
theorem c_L_apartn (l : Launch) (g : wG) (a b : Nat) (ha : a < 720) (hb2 : b < 720) : CtI l g 0 yL_apart cL_apart 3 (some .int) [.int (nI a), .int (nI b)] ([]) (distC (nI a) (nI b)) ([]) := by
  intro sz
  refine x_enter (Qc := fun A => QI g A (distC (nI a) (nI b)) ([])) (by decide) (Nat.le_of_ble_eq_true rfl) ?_
  intro p e s m args below meth c X hr hlocks A hA hP hD hS ls hl
  obtain ⟨⟨hx, hb, hml, hown, hts⟩, hK, hN⟩ := id X
  have hl : lv_has ls 3 [(0, .int (nI a)), (1, .int (nI b))] := hl
  refine lv_iconst (v := 0) hx hb dL_apart_0 (by decide) ?_
  refine lv_istore_n (lv' := [(2, .int 0), (0, .int (nI a)), (1, .int (nI b))]) hx hb dL_apart_1 rfl hl (by decide) rfl (fun ls hl => ?_)
  suffices LP2 : ∀ (n : Nat) (w : Nat), w + n = dN a b → ∀ (ls : Array Slot) (H : Heap) (locs : List Loc), va_P g.1 vwCl ([]) H → va_D A ([]) → va_S A s.heap H locs → lv_has ls 3 [(2, .int (nI w)), (0, .int (nI a)), (1, .int (nI b))] → W p l e (rmD 0) s m args below meth c H locs 0 0 (MQ below (QI g A (distC (nI a) (nI b)) ([])) args s 0 0 A) (F0 m 2 ls []) from LP2 (dN a b) 0 (Nat.zero_add _) ls _ _ hP hD hS (lv_sub hl [0, 1, 2] rfl)
  intro n
  induction n with
  | zero =>
    intro w hk ls H locs hP hD hS hl
    refine lv_iload_n hx hb dL_apart_2 rfl (lv_at hl 1 rfl) ?_
    refine lv_iload_n hx hb dL_apart_3 rfl (lv_at hl 0 rfl) ?_
    refine lv_iadd hx hb dL_apart_4 ?_
    refine lv_sipush (v := 720) hx hb dL_apart_5 (by decide) ?_
    refine lv_irem hx hb dL_apart_8 (by decide) ?_
    refine lv_iload_n hx hb dL_apart_9 rfl (lv_at hl 2 rfl) ?_
    refine lv_icmp_eq (tgt := 30) hx hb dL_apart_10 (by decide) (fun (c_1 : (jrem ((nI a) + (nI w)) 720) = (nI b)) => ?_) (fun (c_1 : ¬ (jrem ((nI a) + (nI w)) 720) = (nI b)) => ?_)
    · refine lv_iload_n hx hb dL_apart_30 rfl (lv_at hl 0 rfl) ?_
      exact x_iret X hr hlocks hP hD hS (by rw [za_dC ha hb2]; exact congrArg nI (by omega)) dL_apart_31
    · refine lv_iload_n hx hb dL_apart_13 rfl (lv_at hl 2 rfl) ?_
      refine lv_iload_n hx hb dL_apart_14 rfl (lv_at hl 0 rfl) ?_
      refine lv_iadd hx hb dL_apart_15 ?_
      refine lv_sipush (v := 720) hx hb dL_apart_16 (by decide) ?_
      refine lv_irem hx hb dL_apart_19 (by decide) ?_
      refine lv_iload_n hx hb dL_apart_20 rfl (lv_at hl 1 rfl) ?_
      refine lv_icmp_eq (tgt := 30) hx hb dL_apart_21 (by decide) (fun c_2 => ?_) (fun q9 => absurd (show (jrem ((nI b) + (nI w)) 720) = (nI a) from (ap_eq ha hb2 (by omega) c_1)) (show ¬ ((jrem ((nI b) + (nI w)) 720) = (nI a)) from q9))
      refine lv_iload_n hx hb dL_apart_30 rfl (lv_at hl 0 rfl) ?_
      exact x_iret X hr hlocks hP hD hS (by rw [za_dC ha hb2]; exact congrArg nI (by omega)) dL_apart_31
  | succ n ih =>
    intro w hk ls H locs hP hD hS hl
    refine lv_iload_n hx hb dL_apart_2 rfl (lv_at hl 1 rfl) ?_
    refine lv_iload_n hx hb dL_apart_3 rfl (lv_at hl 0 rfl) ?_
    refine lv_iadd hx hb dL_apart_4 ?_
    refine lv_sipush (v := 720) hx hb dL_apart_5 (by decide) ?_
    refine lv_irem hx hb dL_apart_8 (by decide) ?_
    refine lv_iload_n hx hb dL_apart_9 rfl (lv_at hl 2 rfl) ?_
    refine lv_icmp_eq (tgt := 30) hx hb dL_apart_10 (by decide) (fun q9 => absurd q9 (show ¬ (jrem ((nI a) + (nI w)) 720) = (nI b) from (ap_ne ha hb2 (by omega)).1)) (fun c_3 => ?_)
    refine lv_iload_n hx hb dL_apart_13 rfl (lv_at hl 2 rfl) ?_
    refine lv_iload_n hx hb dL_apart_14 rfl (lv_at hl 0 rfl) ?_
    refine lv_iadd hx hb dL_apart_15 ?_
    refine lv_sipush (v := 720) hx hb dL_apart_16 (by decide) ?_
    refine lv_irem hx hb dL_apart_19 (by decide) ?_
    refine lv_iload_n hx hb dL_apart_20 rfl (lv_at hl 1 rfl) ?_
    refine lv_icmp_eq (tgt := 30) hx hb dL_apart_21 (by decide) (fun q9 => absurd q9 (show ¬ (jrem ((nI b) + (nI w)) 720) = (nI a) from (ap_ne ha hb2 (by omega)).2)) (fun c_4 => ?_)
    refine lv_iinc (v := (nI (w + 1))) (lv' := [(2, .int (nI (w + 1))), (0, .int (nI a)), (1, .int (nI b))]) hx hb dL_apart_24 hl (k := 0) rfl (nI_add _ 1) (by decide) rfl (fun ls hl => ?_)
    refine lv_goto (tgt := 2) hx hb dL_apart_27 (by decide) ?_
    exact ih (w + 1) (by omega) ls _ _ hP hD hS (lv_sub hl [0, 1, 2] rfl)

/-- a dial -/
def dok (x : Int32) : Prop := ∃ d, d < 720 ∧ x = nI d
/-- the faces' dials on a row of the law's -/
def FD (f : RI) : Prop := ∀ i, i < 4 → dok (f (7 * i))
theorem c_L_apart (l : Launch) (g : wG) (x y : Int32) (hdx : dok x) (hdy : dok y) : CtI l g 0 yL_apart cL_apart 3 (some .int) [.int x, .int y] ([]) (distC x y) ([]) := by
  obtain ⟨a, ha, rfl⟩ := hdx
  obtain ⟨b, hb, rfl⟩ := hdy
  exact c_L_apartn l g a b ha hb
set_option maxHeartbeats 4000000 in
set_option maxRecDepth 100000 in
theorem c_L_copy (l : Launch) (g : wG) (a1 a2 n1 : Nat) (hn1 : n1 < 2 ^ 31) (f f2 : Nat → Int32) : CtQ l g 0 yL_copy cL_copy 3 (some (.array .int)) [.ref a1, .ref a2] ([(a1, .inl (g.2 0, n1, .inl f)), (a2, .inl (g.2 0, n1, .inl f2))]) (some a2) ([(a1, .inl (g.2 0, n1, .inl f)), (a2, .inl (g.2 0, n1, .inl f))]) := by
  intro sz
  refine x_enter (Qc := fun A => QQ g A (some a2) ([(a1, .inl (g.2 0, n1, .inl f)), (a2, .inl (g.2 0, n1, .inl f))])) (by decide) (Nat.le_of_ble_eq_true rfl) ?_
  intro p e s m args below meth c X hr hlocks A hA hP hD hS ls hl
  obtain ⟨⟨hx, hb, hml, hown, hts⟩, hK, hN⟩ := id X
  have hl : lv_has ls 3 [(0, .ref a1), (1, .ref a2)] := hl
  refine lv_iconst (v := 0) hx hb dL_copy_0 (by decide) ?_
  refine lv_istore_n (lv' := [(2, .int 0), (0, .ref a1), (1, .ref a2)]) hx hb dL_copy_1 rfl hl (by decide) rfl (fun ls hl => ?_)
  suffices LP2 : ∀ (n : Nat) (j : Nat) (y : Nat → Int32), j + n = n1 → (∀ i, i < j → y i = f i) → ∀ (ls : Array Slot) (H : Heap) (locs : List Loc), va_P g.1 vwCl ([(a1, .inl (g.2 0, n1, .inl f)), (a2, .inl (g.2 0, n1, .inl y))]) H → va_D A ([(a1, .inl (g.2 0, n1, .inl f)), (a2, .inl (g.2 0, n1, .inl y))]) → va_S A s.heap H locs → lv_has ls 3 [(2, .int (nI j)), (0, .ref a1), (1, .ref a2)] → W p l e (rmD 0) s m args below meth c H locs 0 0 (MQ below (QQ g A (some a2) ([(a1, .inl (g.2 0, n1, .inl f)), (a2, .inl (g.2 0, n1, .inl f))])) args s 0 0 A) (F0 m 2 ls []) from LP2 n1 0 f2 (Nat.zero_add _) (fun i hi => absurd hi (Nat.not_lt_zero i)) ls _ _ hP hD hS (lv_sub hl [0, 1, 2] rfl)
  intro n
  induction n with
  | zero =>
    intro j y hk ht ls H locs hP hD hS hl
    refine lv_iload_n hx hb dL_copy_2 rfl (lv_at hl 0 rfl) ?_
    refine lv_aload_n hx hb dL_copy_3 rfl (lv_at hl 1 rfl) ?_
    refine x_alen (v := (nI n1)) X 0 0 hP rfl rfl rfl dL_copy_4 ?_
    refine lv_icmp_ge (tgt := 20) hx hb dL_copy_5 (by decide) (fun c_1 => ?_) (fun q9 => absurd (show (nI n1) ≤ (nI j) from (nI_le (by omega) (by omega))) (show ¬ ((nI n1) ≤ (nI j)) from q9))
    refine lv_aload_n hx hb dL_copy_20 rfl (lv_at hl 2 rfl) ?_
    have hP2 := wo_i1 (f' := f) hP (k := 1) rfl (fun i hi => ht i (by omega))
    have hD2 : va_D A ([(a1, .inl (g.2 0, n1, .inl f)), (a2, .inl (g.2 0, n1, .inl f))]) := wo_D_addr hD rfl
    exact x_aretA X hr hlocks hP2 hD2 hS rfl dL_copy_21
  | succ n ih =>
    intro j y hk ht ls H locs hP hD hS hl
    refine lv_iload_n hx hb dL_copy_2 rfl (lv_at hl 0 rfl) ?_
    refine lv_aload_n hx hb dL_copy_3 rfl (lv_at hl 1 rfl) ?_
    refine x_alen (v := (nI n1)) X 0 0 hP rfl rfl rfl dL_copy_4 ?_
    refine lv_icmp_ge (tgt := 20) hx hb dL_copy_5 (by decide) (fun q9 => absurd q9 (show ¬ (nI n1) ≤ (nI j) from (nI_ge (by omega) (by omega)))) (fun c_2 => ?_)
    refine lv_aload_n hx hb dL_copy_8 rfl (lv_at hl 2 rfl) ?_
    refine lv_iload_n hx hb dL_copy_9 rfl (lv_at hl 0 rfl) ?_
    refine lv_aload_n hx hb dL_copy_10 rfl (lv_at hl 1 rfl) ?_
    refine lv_iload_n hx hb dL_copy_11 rfl (lv_at hl 0 rfl) ?_
    refine x_iald (v := (f j)) X 0 j hP rfl rfl (by omega) hn1 rfl dL_copy_12 ?_
    refine x_iast (ws2 := [(a1, .inl (g.2 0, n1, .inl f)), (a2, .inl (g.2 0, n1, .inl (upd y j (f j))))]) X 1 j hP hD hS rfl rfl (by omega) hn1 rfl dL_copy_13 (fun H locs hP hD hS => ?_)
    refine lv_iinc (v := (nI (j + 1))) (lv' := [(2, .int (nI (j + 1))), (0, .ref a1), (1, .ref a2)]) hx hb dL_copy_14 hl (k := 0) rfl (nI_add _ 1) (by decide) rfl (fun ls hl => ?_)
    refine lv_goto (tgt := 2) hx hb dL_copy_17 (by decide) ?_
    exact ih (j + 1) (upd y j (f j)) (by omega) (fun i hi => by unfold upd; by_cases e : i = j; (rw [if_pos e, e]); (rw [if_neg e]; exact ht i (by omega))) ls _ _ hP hD hS (lv_sub hl [0, 1, 2] rfl)

def sumF (f : RI) (w : Nat) : Int32 := ((f w + f (7 + w)) + f (14 + w)) + f (21 + w)
set_option maxHeartbeats 4000000 in
set_option maxRecDepth 100000 in
theorem c_L_sum (l : Launch) (g : wG) (bf : Nat) (f : Nat → Int32) (w : Nat) (hw : w < 7) : CtI l g 0 yL_sum cL_sum 2 (some .int) [.ref bf, .int (nI w)] ([(bf, .inl (g.2 0, 28, .inl f))]) (sumF f w) ([(bf, .inl (g.2 0, 28, .inl f))]) := by
  intro sz
  refine x_enter (Qc := fun A => QI g A (sumF f w) ([(bf, .inl (g.2 0, 28, .inl f))])) (by decide) (Nat.le_of_ble_eq_true rfl) ?_
  intro p e s m args below meth c X hr hlocks A hA hP hD hS ls hl
  obtain ⟨⟨hx, hb, hml, hown, hts⟩, hK, hN⟩ := id X
  have hl : lv_has ls 2 [(0, .ref bf), (1, .int (nI w))] := hl
  refine lv_aload_n hx hb dL_sum_0 rfl (lv_at hl 0 rfl) ?_
  refine lv_iload_n hx hb dL_sum_1 rfl (lv_at hl 1 rfl) ?_
  refine x_iald (v := (f w)) X 0 w hP rfl rfl (by omega) (Nat.le_of_ble_eq_true rfl) rfl dL_sum_2 ?_
  refine lv_aload_n hx hb dL_sum_3 rfl (lv_at hl 0 rfl) ?_
  refine lv_bipush (v := 7) hx hb dL_sum_4 (by decide) ?_
  refine lv_iload_n hx hb dL_sum_6 rfl (lv_at hl 1 rfl) ?_
  refine lv_iadd hx hb dL_sum_7 ?_
  refine x_iald (v := (f (7 + w))) X 0 (7 + w) hP rfl (z_add rfl rfl) (by omega) (Nat.le_of_ble_eq_true rfl) rfl dL_sum_8 ?_
  refine lv_iadd hx hb dL_sum_9 ?_
  refine lv_aload_n hx hb dL_sum_10 rfl (lv_at hl 0 rfl) ?_
  refine lv_bipush (v := 14) hx hb dL_sum_11 (by decide) ?_
  refine lv_iload_n hx hb dL_sum_13 rfl (lv_at hl 1 rfl) ?_
  refine lv_iadd hx hb dL_sum_14 ?_
  refine x_iald (v := (f (14 + w))) X 0 (14 + w) hP rfl (z_add rfl rfl) (by omega) (Nat.le_of_ble_eq_true rfl) rfl dL_sum_15 ?_
  refine lv_iadd hx hb dL_sum_16 ?_
  refine lv_aload_n hx hb dL_sum_17 rfl (lv_at hl 0 rfl) ?_
  refine lv_bipush (v := 21) hx hb dL_sum_18 (by decide) ?_
  refine lv_iload_n hx hb dL_sum_20 rfl (lv_at hl 1 rfl) ?_
  refine lv_iadd hx hb dL_sum_21 ?_
  refine x_iald (v := (f (21 + w))) X 0 (21 + w) hP rfl (z_add rfl rfl) (by omega) (Nat.le_of_ble_eq_true rfl) rfl dL_sum_22 ?_
  refine lv_iadd hx hb dL_sum_23 ?_
  exact x_iret X hr hlocks hP hD hS rfl dL_sum_24

/-! the statics, and contracts that make cells -/
def sVal : Nat → Nat → Int32
  | 0, 0 => 1
  | 0, 1 => 0
  | 0, _ => 100
  | 1, 0 => 9
  | 1, 1 => 60
  | 1, _ => 5000
  | _, 0 => 3
  | _, 1 => 1
  | _, _ => 600
def Stt (t : Nat → Nat) (A : Nat → Prop) (U : State) : Prop :=
  va_AO "TowerFaces$Face" U ∧ va_AO "TowerFaces$Tower" U ∧
  va_Z RX5 "LEAST_SETTING" "[I" (.ref (t 0)) A U U.heap ∧ va_T .int (t 0) 3 (fun j => .int (sVal 0 j)) A U U.heap ∧
  va_Z RX5 "MOST_SETTING" "[I" (.ref (t 1)) A U U.heap ∧ va_T .int (t 1) 3 (fun j => .int (sVal 1 j)) A U U.heap ∧
  va_Z RX5 "FIRST_SETTING" "[I" (.ref (t 2)) A U U.heap ∧ va_T .int (t 2) 3 (fun j => .int (sVal 2 j)) A U U.heap
theorem Stt.go {t : Nat → Nat} {A B : Nat → Prop} {s U : State} {H : Heap} {locs : List Loc} (h : Stt t A s) (hS : va_S A s.heap H locs) (hB : ∀ q, B q → A q) (hU : U.heap = H) (hvm : s.vm.Alike U.vm) : Stt t B U := by
  subst hU
  obtain ⟨h1, h2, z0, t0, z1, t1, z2, t2⟩ := h
  exact ⟨h1.moved hvm, h2.moved hvm, ((z0.kept hS.2.1).moved hvm).narrow hB, ((t0.kept hS.2.1).moved hvm).narrow hB, ((z1.kept hS.2.1).moved hvm).narrow hB, ((t1.kept hS.2.1).moved hvm).narrow hB, ((z2.kept hS.2.1).moved hvm).narrow hB, ((t2.kept hS.2.1).moved hvm).narrow hB⟩
def CwS (g : wG) (t : Nat → Nat) (wc : va_W) (sz : Nat) (U : State) : Prop := Cw g wc sz U ∧ Stt t (va_A wc sz) U
theorem CwS_blind {g : wG} {t : Nat → Nat} {wc : va_W} {sz : Nat} {As : List Value} : FrameBlind (va_Pc As (CwS g t wc sz)) := fun a U fr mk q => by
  obtain ⟨q0, ⟨q1, qP, qK, qD, qN⟩, qS⟩ := q
  refine ⟨q0, ⟨q1, qP, va_K.moved (u := U) (U := U.calling fr mk a) (Vm.Alike.refl U.vm) qK, qD, nst_same (u := U) (U := U.calling fr mk a) rfl qN⟩, ?_⟩
  exact Stt.go (H := U.heap) (locs := []) qS va_S.rf (fun _ h => h) rfl (Vm.Alike.refl U.vm)
def rmN (d mc ms : Nat) : Room := { frames := d, cells := mc, slots := ms, locals := 30 * d }
/-- an answer, statics known -/
def CtIS (l : Launch) (g : wG) (t : Nat → Nat) (d : Nat) (y : MethodName) (cc : ByteArray) (n : Nat) (ret : Option FieldType) (As : List Value) (wc : va_W) (rv : Int32) (w1 : va_W) : Prop :=
  ∀ sz, Met l y (.code y cc n ret :: ww) (rmN d 0 0) (va_Pc As (CwS g t wc sz)) (QI g (va_A wc sz) rv w1) 0 0 (va_A wc sz)
def QA (g : wG) (A : Nat → Prop) (post : (Nat → Nat) → Prop) (w1 : (Nat → Nat) → va_W) : Array Value → State → Outcome → State → Prop := va_Qv post (fun u t => va_P g.1 vwCl (w1 u) t.heap ∧ va_D A (w1 u)) A
/-- a constructor: cells are made -/
def CtA (l : Launch) (g : wG) (t : Nat → Nat) (d mc ms : Nat) (y : MethodName) (cc : ByteArray) (n : Nat) (As : List Value) (wc : va_W) (post : (Nat → Nat) → Prop) (w1 : (Nat → Nat) → va_W) : Prop :=
  ∀ sz, Met l y (.code y cc n none :: ww) (rmN d mc ms) (va_Pc As (CwS g t wc sz)) (QA g (va_A wc sz) post w1) mc ms (va_A wc sz)
theorem x_enterS {l : Launch} {g : wG} {t : Nat → Nat} {d mc ms : Nat} {y : MethodName} {cc : ByteArray} {n : Nat} {ret : Option FieldType} {As : List Value} {wc : va_W} {sz : Nat} {Qc : (Nat → Prop) → Array Value → State → Outcome → State → Prop}
    (hy : plainName y.cls = true) (hn : (lg_sl As).length ≤ n)
    (body : ∀ p e s m args below meth c, Sx p m c cc n s args y.cls g → meth.sig.returnType = ret → meth.locks = false → meth.name = y.name → ∀ A : Nat → Prop, Stt t A s → (∀ q, s.heap.size ≤ q → A q) → va_P g.1 vwCl wc s.heap → va_D A wc → va_S A s.heap s.heap [] → ∀ ls : Array Slot, lv_has ls n (lv_args 0 As) →
      W p l e (rmN d mc ms) s m args below meth c s.heap [] 0 0 (MQ below (Qc A) args s mc ms A) (F0 m 0 ls [])) :
    Met l y (.code y cc n ret :: ww) (rmN d mc ms) (va_Pc As (CwS g t wc sz)) (Qc (va_A wc sz)) mc ms (va_A wc sz) := by
  refine Met.ofW (cc := cc) (maxL := n) (ret := ret) hy rfl ?_
  intro p e s m args below meth c s₁ B hml hv
  obtain ⟨rfl, ⟨hsz, hP, hK, hD0, hN⟩, hZ⟩ := hv
  have hts := atoms_spec (ws := .code y cc n ret :: ww) B.pre
  have hown : s.vm.findClass y.cls = some m.cls := findClass_of_methodNamed B.named
  subst hsz
  have hl := lv_entry As (n := n) hn
  rw [lg_entry_eq]
  generalize (lg_sl As ++ List.replicate (n - (lg_sl As).length) Slot.unset).toArray = ls at hl ⊢
  exact body p e s m _ below meth c ⟨⟨B.exec, B.bytes, hml, hown, fun w hw => hts w (List.mem_cons_of_mem _ hw)⟩, hK, hN⟩ B.returns B.notSynchronized (name_of_methodNamed B.named B.method).1 (va_A wc s.heap.size) hZ (fun q h => Or.inr h) hP hD0.self va_S.rf ls hl
section XD
variable {p : Program} {l : Launch} {e : Env} {R : Room} {s : State} {m : MethodId} {args : Array Value} {below : List Frame} {meth : Method} {c : Code} {H : Heap} {locs : List Loc} {cells slots : Nat} {Q : State → Prop}
variable {cc : ByteArray} {pc nL : Nat} {ls : Array Slot} {lv : List (Nat × Value)} {rest st : List Value} {g : wG} {A : Nat → Prop} {a : Nat} {ws : va_W} {H0 : Heap} {own : String} {t : Nat → Nat}
theorem x_preS {wc wr : va_W} {As : List Value} (X : Sx p m c cc nL s args own g) (hZ : Stt t A s) (hP : va_P g.1 vwCl ws H) (hD : va_D A ws) (hS : va_S A s.heap H locs) (hA : ∀ q, s.heap.size ≤ q → A q) (hcut : ws.Perm (wc ++ wr)) : PreS s H (va_Pc As (CwS g t wc H.size)) As := by
  have hPc := wo_P_perm hcut hP
  have hDc := wo_D_left (wo_D_perm hcut hD)
  have hPw : va_P g.1 vwCl wc H := wo_P_mem.mpr fun q h => wo_P_mem.mp hPc q (List.mem_append_left _ h)
  have hF := wo_free hD hS hA hcut
  exact ⟨CwS_blind, fun U hU hW => ⟨rfl, ⟨by rw [hU], by rw [hU]; exact hPw, va_K.moved hW.alike X.2.1, hDc.weaken (fun _ _ _ _ => trivial), nst_warm hW X.2.2⟩, Stt.go hZ hS hF hU hW.alike⟩⟩
/-- a call that knows the statics and answers -/
theorem x_rVS {y : MethodName} {bytes : ByteArray} {n2 d na index b : Nat} {ret : Option FieldType} {As : List Value} {wc wr : va_W} {Qc : Array Value → State → Outcome → State → Prop} {free : Addr → Prop} {ci N : Nat} {T : u_T} {fs : List Value}
    (X : Sx p m c cc nL s args own g) (hZ : Stt t A s) (hM : Met l y (.code y bytes n2 ret :: ww) (rmN d 0 0) (va_Pc (.ref b :: As) (CwS g t wc H.size)) Qc 0 0 free) (yf : yfc y bytes n2 ret na) (yi : yin y) (hl : Cond.methodLink own index y ∈ ww) (hR : d + 1 ≤ R.frames ∧ 8 + (n2 + 11) + 30 * d ≤ R.locals)
    (hP : va_P g.1 vwCl ws H) (hD : va_D A ws) (hS : va_S A s.heap H locs) (hA : ∀ q, s.heap.size ≤ q → A q) (hcut : ws.Perm (wc ++ wr)) (q0 : Nat) (hq : wc[q0]? = some (b, .inr (ci, fs))) (hci : vwCl[ci]? = some (y.cls, T, N))
    (hll : lv_has ls nL lv) (hna : As.length = na) (hst : st = As.reverse ++ .ref b :: rest) (hW : (rest.map fun v => v.category).sum ≤ 8) (hdg : decode cc pc = .ok (.invokevirtual index, 3)) (hcs : cells ≤ R.cells ∧ slots ≤ R.slots) :
    va_Run p l e R s m args below meth c H locs cells slots 0 0 (F0 m pc ls st) rest (Qc (Value.ref b :: As).toArray) free := by
  have hPc := wo_P_perm hcut hP
  have hPw : va_P g.1 vwCl wc H := wo_P_mem.mpr fun q h => wo_P_mem.mp hPc q (List.mem_append_left _ h)
  have pre := x_preS (As := .ref b :: As) X hZ hP hD hS hA hcut
  exact va_runV X.1 hM ⟨callB_of na X.1.2.2.2.2 (ww_GoodIn yf.1) rfl rfl rfl (X.1.2.2.2.2 _ yf.2.1) (X.1.2.2.2.2 _ hl) yf.2.2 hR, X.1.2.2.2.2 _ yi.1, X.1.2.2.2.2 _ yi.2⟩ ⟨pre.1, va_recv X.2.1 hPw hci hq, pre.2⟩ rfl hna hll.1 hst (lv_room hW) hdg hcs
/-- a constructor's call -/
theorem x_rI {y : MethodName} {bytes : ByteArray} {n2 d na index b mc ms : Nat} {As : List Value} {wc wr : va_W} {Qc : Array Value → State → Outcome → State → Prop} {free : Addr → Prop}
    (X : Sx p m c cc nL s args own g) (hZ : Stt t A s) (hM : Met l y (.code y bytes n2 none :: ww) (rmN d mc ms) (va_Pc (.ref b :: As) (CwS g t wc H.size)) Qc mc ms free) (yf : yfc y bytes n2 none na) (hy : y.name = "<init>") (hin : Cond.instanceMethod y ∈ ww) (hl : Cond.methodLink own index y ∈ ww) (hR : d + 1 ≤ R.frames ∧ 8 + (n2 + 11) + 30 * d ≤ R.locals)
    (hP : va_P g.1 vwCl ws H) (hD : va_D A ws) (hS : va_S A s.heap H locs) (hA : ∀ q, s.heap.size ≤ q → A q) (hcut : ws.Perm (wc ++ wr))
    (hll : lv_has ls nL lv) (hna : As.length = na) (hst : st = As.reverse ++ .ref b :: rest) (hW : (rest.map fun v => v.category).sum ≤ 8) (hdg : decode cc pc = .ok (.invokespecial index, 3)) (hcs : cells + mc ≤ R.cells ∧ slots + ms ≤ R.slots) :
    va_Run p l e R s m args below meth c H locs cells slots mc ms (F0 m pc ls st) rest (Qc (Value.ref b :: As).toArray) free :=
  va_runI X.1 hM ⟨callB_of na X.1.2.2.2.2 (ww_GoodIn yf.1) rfl rfl rfl (X.1.2.2.2.2 _ yf.2.1) (X.1.2.2.2.2 _ hl) yf.2.2 hR, hy, X.1.2.2.2.2 _ hin⟩ (x_preS (As := .ref b :: As) X hZ hP hD hS hA hcut) rfl hna hll.1 hst (lv_room hW) hdg hcs
/-- a private constructor's call -/
theorem x_rIN {y : MethodName} {bytes : ByteArray} {n2 d na index b mc ms : Nat} {As : List Value} {wc wr : va_W} {Qc : Array Value → State → Outcome → State → Prop} {free : Addr → Prop} {host : String}
    (X : Sx p m c cc nL s args own g) (hZ : Stt t A s) (hM : Met l y (.code y bytes n2 none :: ww) (rmN d mc ms) (va_Pc (.ref b :: As) (CwS g t wc H.size)) Qc mc ms free) (yf : yfc y bytes n2 none na) (hy : y.name = "<init>") (hin : Cond.instanceMethod y ∈ ww) (hl : va_Nw (.methodLinkNest own index y host) s) (hR : d + 1 ≤ R.frames ∧ 8 + (n2 + 11) + 30 * d ≤ R.locals)
    (hP : va_P g.1 vwCl ws H) (hD : va_D A ws) (hS : va_S A s.heap H locs) (hA : ∀ q, s.heap.size ≤ q → A q) (hcut : ws.Perm (wc ++ wr))
    (hll : lv_has ls nL lv) (hna : As.length = na) (hst : st = As.reverse ++ .ref b :: rest) (hW : (rest.map fun v => v.category).sum ≤ 8) (hdg : decode cc pc = .ok (.invokespecial index, 3)) (hcs : cells + mc ≤ R.cells ∧ slots + ms ≤ R.slots) :
    va_Run p l e R s m args below meth c H locs cells slots mc ms (F0 m pc ls st) rest (Qc (Value.ref b :: As).toArray) free :=
  va_runIN X.1 hM ⟨va_cnB na X.1.2.2.2.2 (ww_GoodIn yf.1) rfl rfl rfl hl (X.1.2.2.2.2 _ yf.2.1) yf.2.2 hR, hy, X.1.2.2.2.2 _ hin⟩ (x_preS (As := .ref b :: As) X hZ hP hD hS hA hcut) rfl hna hll.1 hst (lv_room hW) hdg hcs
theorem x_goA {wc wr : va_W} {mc ms : Nat} {post : (Nat → Nat) → Prop} {w1 wn : (Nat → Nat) → va_W} {av : Array Value} {st0 : List Value} (hr : va_Run p l e R s m args below meth c H locs cells slots mc ms (F0 m pc ls st0) rest (QA g (va_A wc H.size) post w1 av) (va_A wc H.size))
    (hP : va_P g.1 vwCl ws H) (hD : va_D A ws) (hS : va_S A H0 H locs) (hA : ∀ q, H0.size ≤ q → A q) (hcut : ws.Perm (wc ++ wr)) (hback : ∀ u, (wr ++ w1 u).Perm (wn u))
    (kk : ∀ (u : Nat → Nat) (H1 : Heap) (locs1 : List Loc), post u → va_P g.1 vwCl (wn u) H1 → va_D A (wn u) → va_S A H0 H1 locs1 → W p l e R s m args below meth c H1 locs1 (cells + mc) (slots + ms) Q (F0 m (pc + 3) ls rest)) : W p l e R s m args below meth c H locs cells slots Q (F0 m pc ls st0) := by
  have hF := wo_free hD hS hA hcut
  refine va_callv hr hS (fun q _ h => hF q h) hF (fun u t H1 locs1 ht hvm hw hB hz1 hk1 hS1 => ?_)
  obtain ⟨hP1, hD1⟩ := hB
  rw [ht] at hP1
  obtain ⟨hPn, hDn⟩ := wo_join hP hD hcut (hback u) hk1 hF hP1 hD1
  exact kk u H1 locs1 hw hPn hDn hS1
theorem x_vretA {post : (Nat → Nat) → Prop} {w1 : (Nat → Nat) → va_W} (X : Sx p m c cc nL s args own g) (hr : meth.sig.returnType = none) (hlocks : meth.locks = false) (u : Nat → Nat) (hu : post u) (hP : va_P g.1 vwCl (w1 u) H) (hD : va_D A (w1 u)) (hS : va_S A s.heap H locs) (hdg : decode cc pc = .ok (.return_, 1)) :
    W p l e R s m args below meth c H locs cells slots (MQ below (QA g A post w1) args s cells slots A) (F0 m pc ls []) :=
  W.vret X.1.1 X.1.2.1 hr (fun T hT hW => ⟨⟨u, rfl, hu, by rw [hT]; exact hP, hD⟩, hS.F hT⟩) hS.2.2 hdg hlocks
/-- Object's constructor -/
theorem x_obj {index b : Nat} (X : Sx p m c cc nL s args own g) (hll : lv_has ls nL lv) (hl : Cond.methodLink own index objectInit ∈ ww) (hi : Cond.instanceMethod objectInit ∈ ww) (hc : Cond.code objectInit ⟨#[0xb1]⟩ 1 none ∈ ww) (hR : 1 ≤ R.frames ∧ (rest.map fun v => v.category).sum + 12 ≤ R.locals) (hdg : decode cc pc = .ok (.invokespecial index, 3))
    (kk : W p l e R s m args below meth c H locs cells slots Q (F0 m (pc + 3) ls rest)) : W p l e R s m args below meth c H locs cells slots Q (F0 m pc ls (.ref b :: rest)) :=
  W.objInit X.1.1 X.1.2.1 X.1.2.2.2.1 (X.1.2.2.2.2 _ hl) (X.1.2.2.2.2 _ hi) (X.1.2.2.2.2 _ hc) (g := F0 m pc ls (.ref b :: rest)) rfl (hll.1.trans X.1.2.2.1.symm) rfl hdg hR.1 (by show 2 * 0 + _ + 12 ≤ _; omega) kk
/-- new -/
theorem x_new {C : String} {T : u_T} {N ci index : Nat} {ty : Nat → FieldType} {fs : List Value} (X : Sx p m c cc nL s args own g) (hin : ∀ w ∈ u_ws C T N, w ∈ ww) (hty : ∀ k, k < N → parseFieldDescriptor (T k).2.2.1 = some (ty k)) (hcl : Cond.classLink own index C ∈ ww) (hinst : Cond.instantiable C N ∈ ww) (hini : Cond.initialized C ∈ ww)
    (hP : va_P g.1 vwCl ws H) (hD : va_D A ws) (hS : va_S A H0 H locs) (hA : ∀ q, H0.size ≤ q → A q) (hc : vwCl[ci]? = some (C, T, N)) (hfs : ∀ j, j < N → defaultValue (ty j) = vp_V fs j) (hcells : cells + 1 ≤ R.cells) (hslots : slots + N ≤ R.slots) (hdg : decode cc pc = .ok (.new index, 3))
    (kk : ∀ (q : Nat) (H1 : Heap), va_P g.1 vwCl (ws ++ [(q, .inr (ci, fs))]) H1 → va_D A (ws ++ [(q, .inr (ci, fs))]) → va_S A H0 H1 locs → W p l e R s m args below meth c H1 locs (cells + 1) (slots + N) Q (F0 m (pc + 3) ls (.ref q :: rest))) : W p l e R s m args below meth c H locs cells slots Q (F0 m pc ls rest) :=
  va_new X.1.1 X.1.2.1 X.1.2.2.2.2 hin ty hty X.1.2.2.2.1 (X.1.2.2.2.2 _ hcl) (X.1.2.2.2.2 _ hinst) (X.1.2.2.2.2 _ hini) X.2.1 hP hD hS hA hc hfs hcells hslots hdg kk
theorem x_newI {n : Nat} {n' : Int32} (X : Sx p m c cc nL s args own g) (harr : Cond.arrayClass .int ∈ ww) (hP : va_P g.1 vwCl ws H) (hD : va_D A ws) (hS : va_S A H0 H locs) (hA : ∀ q, H0.size ≤ q → A q) (hn : n' = nI n) (hsm : n < 1000) (hcells : cells + 1 ≤ R.cells) (hslots : slots + n ≤ R.slots) (hdg : decode cc pc = .ok (.newarray .int, 2))
    (kk : ∀ (q : Nat) (H1 : Heap), va_P g.1 vwCl (ws ++ [(q, .inl (g.2 0, n, .inl (fun _ => 0)))]) H1 → va_D A (ws ++ [(q, .inl (g.2 0, n, .inl (fun _ => 0)))]) → va_S A H0 H1 locs → W p l e R s m args below meth c H1 locs (cells + 1) (slots + n) Q (F0 m (pc + 2) ls (.ref q :: rest))) : W p l e R s m args below meth c H locs cells slots Q (F0 m pc ls (.int n' :: rest)) := by
  subst hn
  refine va_newa (atype := .int) (ty := .int) (a0 := (n, .inl (fun _ => 0))) (N' := n) X.1.1 X.1.2.1 (X.1.2.2.2.2 _ harr) rfl X.2.1 hP hD hS hA (fun cA => rfl) (nI_pos (by omega)) (nI_clamp (by omega)) (by show n * 4 ≤ _; omega) hcells hslots hdg (fun q cA H1 hK1 hP1 hD1 hS1 => ?_)
  have h1 := (hK1.2 4 (cA, .int) rfl).2
  have h2 := (X.2.1.2 0 (g.2 0, .int) rfl).2
  have h3 : cA = g.2 0 := Option.some.inj (Eq.trans (Eq.symm h1) h2)
  subst h3
  exact kk q H1 hP1 hD1 hS1
theorem x_newC {n : Nat} {n' : Int32} (X : Sx p m c cc nL s args own g) (harr : Cond.arrayClass .char ∈ ww) (hP : va_P g.1 vwCl ws H) (hD : va_D A ws) (hS : va_S A H0 H locs) (hA : ∀ q, H0.size ≤ q → A q) (hn : n' = nI n) (hsm : n < 1000) (hcells : cells + 1 ≤ R.cells) (hslots : slots + n ≤ R.slots) (hdg : decode cc pc = .ok (.newarray .char, 2))
    (kk : ∀ (q : Nat) (H1 : Heap), va_P g.1 vwCl (ws ++ [(q, .inl (g.2 1, n, .inl (fun _ => 0)))]) H1 → va_D A (ws ++ [(q, .inl (g.2 1, n, .inl (fun _ => 0)))]) → va_S A H0 H1 locs → W p l e R s m args below meth c H1 locs (cells + 1) (slots + n) Q (F0 m (pc + 2) ls (.ref q :: rest))) : W p l e R s m args below meth c H locs cells slots Q (F0 m pc ls (.int n' :: rest)) := by
  subst hn
  refine va_newa (atype := .char) (ty := .char) (a0 := (n, .inl (fun _ => 0))) (N' := n) X.1.1 X.1.2.1 (X.1.2.2.2.2 _ harr) rfl X.2.1 hP hD hS hA (fun cA => rfl) (nI_pos (by omega)) (nI_clamp (by omega)) (by show n * 2 ≤ _; omega) hcells hslots hdg (fun q cA H1 hK1 hP1 hD1 hS1 => ?_)
  have h1 := (hK1.2 4 (cA, .char) rfl).2
  have h2 := (X.2.1.2 1 (g.2 1, .char) rfl).2
  have h3 : cA = g.2 1 := Option.some.inj (Eq.trans (Eq.symm h1) h2)
  subst h3
  exact kk q H1 hP1 hD1 hS1
theorem x_newQ {n t0 index : Nat} {n' : Int32} {C : String} (X : Sx p m c cc nL s args own g) (hover : va_AO C s) (hcl : Cond.classLink own index C ∈ ww) (ht : (tysG g)[t0]? = some (g.2 t0, .object C)) (hP : va_P g.1 vwCl ws H) (hD : va_D A ws) (hS : va_S A H0 H locs) (hA : ∀ q, H0.size ≤ q → A q) (hn : n' = nI n) (hsm : n < 1000) (hcells : cells + 1 ≤ R.cells) (hslots : slots + n ≤ R.slots) (hdg : decode cc pc = .ok (.anewarray index, 3))
    (kk : ∀ (q : Nat) (H1 : Heap), va_P g.1 vwCl (ws ++ [(q, .inl (g.2 t0, n, .inr (.inr (.inr (.inr (fun _ => none))))))]) H1 → va_D A (ws ++ [(q, .inl (g.2 t0, n, .inr (.inr (.inr (.inr (fun _ => none))))))]) → va_S A H0 H1 locs → W p l e R s m args below meth c H1 locs (cells + 1) (slots + n) Q (F0 m (pc + 3) ls (.ref q :: rest))) : W p l e R s m args below meth c H locs cells slots Q (F0 m pc ls (.int n' :: rest)) := by
  subst hn
  refine va_newq X.1.1 X.1.2.1 X.1.2.2.2.1 (X.1.2.2.2.2 _ hcl) hover X.2.1 hP hD hS hA (nI_pos (by omega)) (nI_clamp (by omega)) (by omega) hcells hslots hdg (fun q cA H1 hK1 hP1 hD1 hS1 => ?_)
  obtain ⟨k1, c1, -, -, -, h1⟩ := (hK1.2 4 (cA, .object C) rfl).2
  obtain ⟨k2, c2, -, -, -, h2⟩ := (X.2.1.2 t0 _ ht).2
  have h3 : cA = g.2 t0 := Option.some.inj (Eq.trans (Eq.symm h1) h2)
  subst h3
  exact kk q H1 hP1 hD1 hS1
theorem x_aast {n ci t0 v : Nat} {f : Nat → Option Nat} {i : Int32} {ws2 : va_W} {cA : ClassId} {r : vw_C} {vs : List Value} (X : Sx p m c cc nL s args own g) (q0 qk j : Nat) (hP : va_P g.1 vwCl ws H) (hD : va_D A ws) (hS : va_S A H0 H locs) (he : ws[q0]? = some (a, .inl (cA, n, .inr (.inr (.inr (.inr f)))))) (ht : (tysG g)[t0]? = some (cA, .object r.1)) (hv : ws[qk]? = some (v, .inr (ci, vs))) (hc : vwCl[ci]? = some r) (hi : i = nI j) (hj : j < n) (hn : n < 2 ^ 31) (hw : ws.set q0 (a, .inl (cA, n, .inr (.inr (.inr (.inr (va_up f j (some v))))))) = ws2) (hdg : decode cc pc = .ok (.aastore, 1))
    (kk : ∀ (H1 : Heap) (locs1 : List Loc), va_P g.1 vwCl ws2 H1 → va_D A ws2 → va_S A H0 H1 locs1 → W p l e R s m args below meth c H1 locs1 cells slots Q (F0 m (pc + 1) ls rest)) : W p l e R s m args below meth c H locs cells slots Q (F0 m pc ls (.ref v :: .int i :: .ref a :: rest)) := by
  obtain ⟨h1, h2⟩ := x_in hi hj hn
  subst hw
  refine va_astq X.1.1 X.1.2.1 X.2.1 hP hD hS q0 t0 qk ci he ht hv hc h1 hdg ?_
  rw [h2]; exact kk
theorem x_putF {ref C : String} {T : u_T} {N ci index : Nat} {fs : List Value} {v : Value} {ws2 : va_W} {ty0 : Nat → FieldType} (X : Sx p m c cc nL s args own g) (q0 k : Nat) (hin : ∀ w ∈ u_ws C T N, w ∈ ww) (hty : ∀ k, k < N → parseFieldDescriptor (T k).2.2.1 = some (ty0 k)) (hnm : ∀ a, a < N → ∀ b, b < N → a ≠ b → (T a).2.1 ≠ (T b).2.1) (hmn : meth.name = "<init>")
    (hP : va_P g.1 vwCl ws H) (hD : va_D A ws) (hS : va_S A H0 H locs) (he : ws[q0]? = some (a, .inr (ci, fs))) (hc : vwCl[ci]? = some (C, T, N)) (hk : k < N)
    (hlink : Cond.fieldLink own index ref (T k).2.1 (T k).2.2.1 ∈ ww) (href : (T k).1 = ref) (hfin : (T k).2.2.2 = true) (hdecl : (T k).1 = own) (hn : narrow (ty0 k) v = v) (hfit : fits (ty0 k) v = true) (hl : k < fs.length)
    (hw : ws.set q0 (a, .inr (ci, fs.set k v)) = ws2) (hdg : decode cc pc = .ok (.putfield index, 3))
    (kk : ∀ (H1 : Heap) (locs1 : List Loc), va_P g.1 vwCl ws2 H1 → va_D A ws2 → va_S A H0 H1 locs1 → W p l e R s m args below meth c H1 locs1 cells slots Q (F0 m (pc + 3) ls rest)) : W p l e R s m args below meth c H locs cells slots Q (F0 m pc ls (v :: .ref a :: rest)) := by
  subst hw
  exact va_putF X.1.1 X.1.2.1 X.1.2.2.2.2 hin ty0 hty hnm X.1.2.2.2.1 X.2.1 hP hD hS q0 he hc k hk (X.1.2.2.2.2 _ hlink) (fun x h => by rw [href] at h; exact h) hfin hmn hdecl (hty k hk) hn hfit hl hdg kk
/-- a static read, and a read of its row -/
theorem x_gets {n d ref : String} {v : Value} {index : Nat} (X : Sx p m c cc nL s args own g) (hZ : va_Z ref n d v A s s.heap) (hS : va_S A s.heap H locs) (hlink : Cond.fieldLink own index ref n d ∈ ww) (hdg : decode cc pc = .ok (.getstatic index, 3))
    (kk : W p l e R s m args below meth c H locs cells slots Q (F0 m (pc + 3) ls (v :: rest))) : W p l e R s m args below meth c H locs cells slots Q (F0 m pc ls rest) :=
  va_gets X.1.1 X.1.2.1 hZ hS X.1.2.2.2.1 (X.1.2.2.2.2 _ hlink) (fun x h => h) hdg kk
theorem x_getsN {n d ref host : String} {v : Value} {index : Nat} (X : Sx p m c cc nL s args own g) (hZ : va_Z ref n d v A s s.heap) (hS : va_S A s.heap H locs) (hlink : va_Nw (.fieldLinkNest own index ref n d host) s) (hdg : decode cc pc = .ok (.getstatic index, 3))
    (kk : W p l e R s m args below meth c H locs cells slots Q (F0 m (pc + 3) ls (v :: rest))) : W p l e R s m args below meth c H locs cells slots Q (F0 m pc ls rest) :=
  va_getsN X.1.1 X.1.2.1 hZ hS X.1.2.2.2.1 (va_Nw.use (A := args) rfl hlink) (fun x h => h) hdg kk
theorem x_sald {n b j : Nat} {f : Nat → Int32} {i v : Int32} (X : Sx p m c cc nL s args own g) (hT : va_T .int b n (fun j => .int (f j)) A s s.heap) (hS : va_S A s.heap H locs) (hi : i = nI j) (hj : j < n) (hn : n < 2 ^ 31) (hv : f j = v) (hdg : decode cc pc = .ok (.iaload, 1))
    (kk : W p l e R s m args below meth c H locs cells slots Q (F0 m (pc + 1) ls (.int v :: rest))) : W p l e R s m args below meth c H locs cells slots Q (F0 m pc ls (.int i :: .ref b :: rest)) := by
  obtain ⟨h1, h2⟩ := x_in hi hj hn
  exact va_ti X.1.1 X.1.2.1 hT hS h1 (by rw [h2, hv]) hdg kk
/-- a copy of the whole of a static's row -/
theorem x_scopy {index n b : Nat} {f f2 : Nat → Int32} {ws2 : va_W} (X : Sx p m c cc nL s args own g) (hll : lv_has ls nL lv) (hl : Cond.methodLink own index arraycopyName ∈ ww) (hm : Cond.native arraycopyName ∈ ww ∧ Cond.static arraycopyName ∈ ww ∧ Cond.initialized "java/lang/System" ∈ ww)
    (hT : va_T .int b n (fun j => .int (f j)) A s s.heap) (hP : va_P g.1 vwCl ws H) (hD : va_D A ws) (hS : va_S A s.heap H locs) (q1 : Nat) (h1 : ws[q1]? = some (a, .inl (g.2 0, n, .inl f2))) (hn : n < 2 ^ 31)
    (hR : 1 ≤ R.frames ∧ (rest.map fun v => v.category).sum + (nativeFrameWords "java/lang/System" "arraycopy" 5 + 11) ≤ R.locals) (hw : ws.set q1 (a, .inl (g.2 0, n, .inl f)) = ws2) (hdg : decode cc pc = .ok (.invokestatic index, 3))
    (kk : ∀ (H1 : Heap) (locs1 : List Loc), va_P g.1 vwCl ws2 H1 → va_D A ws2 → va_S A s.heap H1 locs1 → W p l e R s m args below meth c H1 locs1 cells slots Q (F0 m (pc + 3) ls rest)) : W p l e R s m args below meth c H locs cells slots Q (F0 m pc ls (.int (nI n) :: .int 0 :: .ref a :: .int 0 :: .ref b :: rest)) := by
  have c0 : (0 : Int32).toNatClampNeg = 0 := sb_cl0
  have cn : (nI n).toNatClampNeg = n := nI_clamp hn
  intro T hT0 XT
  obtain ⟨scr, r1, ⟨r2, k0, u0, m0, v0⟩, r3, r4, -, r6, r7⟩ := hT
  have hc0 : H[b]? = some scr := by rw [hS.2.1 b (Array.getElem?_eq_some_iff.mp r1).1 r7]; exact r1
  have hc1 : H[a]? = some (vp_cell (g.2 0) (n, .inl f2)) := wo_P_mem.mp hP _ (List.mem_of_getElem? h1)
  obtain ⟨-, k1, u1, m1, v1⟩ := (X.2.1.2 0 (g.2 0, .int) rfl).1 n (fun j => .int (f2 j))
  have e0 : (nI n).toInt = (n : Int) := nI_toInt hn
  obtain ⟨vm', X', step⟩ := XT.arraycopy X.1.1 X.1.2.2.2.1 (X.1.2.2.2.2 _ hl) (X.1.2.2.2.2 _ hm.1) (X.1.2.2.2.2 _ hm.2.1) (X.1.2.2.2.2 _ hm.2.2) (src := b) (dst := a) (cs := scr) (cd := vp_cell (g.2 0) (n, .inl f2)) (srcPos := 0) (destPos := 0) (n := nI n) (by rw [hT0]; exact hc0) (by rw [hT0]; exact hc1)
    r2 (fun _ h => by cases h) r3 (fun h => by cases h) u0 u1 v0 v1 (by simp [refKind]) (by decide) (by decide) (nI_pos hn)
    (by rw [e0]; show ¬ (0 : Int) + n > (scr.slots.size : Int); omega)
    (by rw [e0]; show ¬ (0 : Int) + n > ((arrV (g.2 0) n (fun j => .int (f2 j))).slots.size : Int); rw [arrV_size]; omega)
    (fun vm₁ _ i hi => by
      rw [cn] at hi
      have q : scr.slots.getD ((0 : Int32).toNatClampNeg + i) .null = .int (f i) := by
        rw [c0, Nat.zero_add, Array.getD_eq_getD_getElem?, r6 _ hi]
        rfl
      exact ⟨by rw [q]; rfl, by rw [q]; exact trivial⟩)
    (g := F0 m pc ls (.int (nI n) :: .int 0 :: .ref a :: .int 0 :: .ref b :: rest)) rfl (hll.1.trans X.1.2.2.1.symm) (rest := rest) rfl (by rw [X.1.2.1]; exact hdg) hR.1 (by show 2 * 0 + _ + _ ≤ _; omega)
  have e1 : copied scr (vp_cell (g.2 0) (n, .inl f2)) 0 0 (nI n) = vp_cell (g.2 0) (n, .inl (va_cpy f f2 (0 : Int32).toNatClampNeg (0 : Int32).toNatClampNeg (nI n).toNatClampNeg)) := va_copiedX (fun z => .int z) scr (g.2 0) f f2 r6 (by rw [c0, cn]; omega)
  rw [c0, cn] at e1
  rw [e1] at X' step
  have e2 : (vp_cell (g.2 0) (n, .inl (va_cpy f f2 0 0 n)) : Cell) = vp_cell (g.2 0) (n, .inl f) := by
    show arrV (g.2 0) n (fun j => Value.int (va_cpy f f2 0 0 n j)) = arrV (g.2 0) n (fun j => Value.int (f j))
    unfold arrV
    congr 1
    exact congrArg Array.ofFn (funext fun j => congrArg Value.int (by rw [pk_cpy_in (Nat.zero_le _) (by omega)]; simp))
  rw [e2] at X' step
  have hl2 : a < H.size := (Array.getElem?_eq_some_iff.mp hc1).1
  have hheap : ((T.setVm vm').setCell a (vp_cell (g.2 0) (n, .inl f))).heap = H.setIfInBounds a (vp_cell (g.2 0) (n, .inl f)) := by rw [← hT0]; rfl
  have oq : ∀ q : Nat, q ≠ a → (H.setIfInBounds a (vp_cell (g.2 0) (n, .inl f)))[q]? = H[q]? := fun q hq => by simp [Array.getElem?_setIfInBounds, Ne.symm hq]
  subst hw
  obtain ⟨T2, a1, b1⟩ := kk _ _ (hP.set hD h1 (show (H.setIfInBounds a _)[a]? = some _ by simp [Array.getElem?_setIfInBounds, hl2]) oq) (hD.set h1) ⟨by simp; exact hS.1, fun q g1 g2 => by
      rw [oq q (fun w => g2 (by rw [w]; exact hD.2 q1 _ h1))]
      exact hS.2.1 q g1 g2, fun q hq => by
      rcases List.mem_append.mp hq with h | h
      · exact hS.2.2 q h
      · obtain ⟨z, -, hz⟩ := List.mem_map.mp h
        rw [← hz]
        exact hD.2 q1 _ h1⟩ _ hheap X'
  exact ⟨T2, step T2 a1, b1⟩
end XD

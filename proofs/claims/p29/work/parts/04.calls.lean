/-! contracts: the world ahead, the answer, the world behind; nothing is made -/
abbrev wG : Type := va_G × (Nat → ClassId)
abbrev tysG (g : wG) : List (ClassId × FieldType) := [(g.2 0, .int), (g.2 1, .char), (g.2 2, .object "TowerFaces$Face"), (g.2 3, .object "TowerFaces$Tower")]
def nst (U : State) : Prop :=
  va_Nw (.methodLinkNest RX3 60 yX5_isWithin RX5) U ∧ va_Nw (.methodLinkNest RX0 43 yX5_strikesAt RX5) U ∧ va_Nw (.methodLinkNest RX3 105 yX5_distance RX5) U ∧
  va_Nw (.methodLinkNest RX2 28 yX5_isWithin RX5) U ∧ True ∧ va_Nw (.methodLinkNest RX3 19 yX2_init RX5) U ∧
  va_Nw (.methodLinkNest RX5 31 yX4_init RX5) U ∧ va_Nw (.fieldLinkNest RX3 31 RX5 "FIRST_SETTING" "[I" RX5) U
theorem nst_same {u U : State} (h : u.vm = U.vm) (hN : nst u) : nst U := by
  obtain ⟨h1, h2, h3, h4, h5, h6, h7, h8⟩ := hN
  exact ⟨va_Nw.same rfl h h1, va_Nw.same rfl h h2, va_Nw.same rfl h h3, va_Nw.same rfl h h4, h5, va_Nw.same rfl h h6, va_Nw.same rfl h h7, va_Nw.same rfl h h8⟩
theorem nst_warm {s U : State} (h : s.WarmedH U.vm) (hN : nst s) : nst U := by
  obtain ⟨h1, h2, h3, h4, h5, h6, h7, h8⟩ := hN
  exact ⟨va_Nw.warmM h h1, va_Nw.warmM h h2, va_Nw.warmM h h3, va_Nw.warmM h h4, h5, va_Nw.warmM h h6, va_Nw.warmM h h7, va_Nw.warmF h h8⟩
def Cw (g : wG) (wc : va_W) (sz : Nat) (U : State) : Prop := U.heap.size = sz ∧ va_P g.1 vwCl wc U.heap ∧ va_K g.1 vwCl (tysG g) U ∧ va_D (fun _ => True) wc ∧ nst U
theorem Cw_blind {g : wG} {wc : va_W} {sz : Nat} {As : List Value} : FrameBlind (va_Pc As (Cw g wc sz)) := fun a U fr mk q => by
  obtain ⟨q0, q1, qP, qK, qD, qN⟩ := q
  exact ⟨q0, q1, qP, va_K.moved (u := U) (U := U.calling fr mk a) (Vm.Alike.refl U.vm) qK, qD, nst_same (u := U) (U := U.calling fr mk a) rfl qN⟩
def rmD (d : Nat) : Room := { frames := d, cells := 0, slots := 0, locals := 30 * d }
def QI (g : wG) (A : Nat → Prop) (rv : Int32) (w1 : va_W) : Array Value → State → Outcome → State → Prop := va_Qi (fun r (_ : Unit) => r = rv) (fun _ t => va_P g.1 vwCl w1 t.heap ∧ va_D A w1) A
def QV (g : wG) (A : Nat → Prop) (w1 : va_W) : Array Value → State → Outcome → State → Prop := va_Qv (fun (_ : Unit) => True) (fun _ t => va_P g.1 vwCl w1 t.heap ∧ va_D A w1) A
def QQ (g : wG) (A : Nat → Prop) (rq : Option Nat) (w1 : va_W) : Array Value → State → Outcome → State → Prop := va_Qq (fun r (_ : Unit) => r = rq) (fun _ t => va_P g.1 vwCl w1 t.heap ∧ va_D A w1) A
def CtI (l : Launch) (g : wG) (d : Nat) (y : MethodName) (cc : ByteArray) (n : Nat) (ret : Option FieldType) (As : List Value) (wc : va_W) (rv : Int32) (w1 : va_W) : Prop :=
  ∀ sz, Met l y (.code y cc n ret :: ww) (rmD d) (va_Pc As (Cw g wc sz)) (QI g (va_A wc sz) rv w1) 0 0 (va_A wc sz)
def CtV (l : Launch) (g : wG) (d : Nat) (y : MethodName) (cc : ByteArray) (n : Nat) (ret : Option FieldType) (As : List Value) (wc : va_W) (w1 : va_W) : Prop :=
  ∀ sz, Met l y (.code y cc n ret :: ww) (rmD d) (va_Pc As (Cw g wc sz)) (QV g (va_A wc sz) w1) 0 0 (va_A wc sz)
def CtQ (l : Launch) (g : wG) (d : Nat) (y : MethodName) (cc : ByteArray) (n : Nat) (ret : Option FieldType) (As : List Value) (wc : va_W) (rq : Option Nat) (w1 : va_W) : Prop :=
  ∀ sz, Met l y (.code y cc n ret :: ww) (rmD d) (va_Pc As (Cw g wc sz)) (QQ g (va_A wc sz) rq w1) 0 0 (va_A wc sz)
/-- what a walk stands on -/
def Sx (p : Program) (m : MethodId) (c : Code) (cc : ByteArray) (nL : Nat) (s : State) (args : Array Value) (own : String) (g : wG) : Prop := CallFix p m c cc nL s args ww own ∧ va_K g.1 vwCl (tysG g) s ∧ nst s
/-- the entry of a method -/
theorem x_enter {l : Launch} {g : wG} {d : Nat} {y : MethodName} {cc : ByteArray} {n : Nat} {ret : Option FieldType} {As : List Value} {wc : va_W} {sz : Nat} {Qc : (Nat → Prop) → Array Value → State → Outcome → State → Prop}
    (hy : plainName y.cls = true) (hn : (lg_sl As).length ≤ n)
    (body : ∀ p e s m args below meth c, Sx p m c cc n s args y.cls g → meth.sig.returnType = ret → meth.locks = false → ∀ A : Nat → Prop, (∀ q, s.heap.size ≤ q → A q) → va_P g.1 vwCl wc s.heap → va_D A wc → va_S A s.heap s.heap [] → ∀ ls : Array Slot, lv_has ls n (lv_args 0 As) →
      W p l e (rmD d) s m args below meth c s.heap [] 0 0 (MQ below (Qc A) args s 0 0 A) (F0 m 0 ls [])) :
    Met l y (.code y cc n ret :: ww) (rmD d) (va_Pc As (Cw g wc sz)) (Qc (va_A wc sz)) 0 0 (va_A wc sz) := by
  refine Met.ofW (cc := cc) (maxL := n) (ret := ret) hy rfl ?_
  intro p e s m args below meth c s₁ B hml hv
  obtain ⟨rfl, hsz, hP, hK, hD0, hN⟩ := hv
  have hts := atoms_spec (ws := .code y cc n ret :: ww) B.pre
  have hown : s.vm.findClass y.cls = some m.cls := findClass_of_methodNamed B.named
  subst hsz
  have hl := lv_entry As (n := n) hn
  rw [lg_entry_eq]
  generalize (lg_sl As ++ List.replicate (n - (lg_sl As).length) Slot.unset).toArray = ls at hl ⊢
  exact body p e s m _ below meth c ⟨⟨B.exec, B.bytes, hml, hown, fun w hw => hts w (List.mem_cons_of_mem _ hw)⟩, hK, hN⟩ B.returns B.notSynchronized (va_A wc s.heap.size) (fun q h => Or.inr h) hP hD0.self va_S.rf ls hl
/-- what a call of a method asks of the tables, once a method -/
def yfc (y : MethodName) (bytes : ByteArray) (n : Nat) (ret : Option FieldType) (na : Nat) : Prop := Cond.code y bytes n ret ∈ ww ∧ Cond.initialized y.cls ∈ ww ∧ (y.cls ≠ "java/lang/invoke/MethodHandle" ∧ y.cls ≠ "java/lang/invoke/VarHandle" ∧ (parseMethodDescriptor y.desc).map (fun d => d.parameters.length) = some na)
def yin (y : MethodName) : Prop := Cond.instanceMethod y ∈ ww ∧ Cond.selects y.cls y y ∈ ww
section XC
variable {p : Program} {l : Launch} {e : Env} {R : Room} {s : State} {m : MethodId} {args : Array Value} {below : List Frame} {meth : Method} {c : Code} {H : Heap} {locs : List Loc} {cells slots : Nat} {Q : State → Prop}
variable {cc : ByteArray} {pc nL : Nat} {ls : Array Slot} {lv : List (Nat × Value)} {rest st : List Value} {g : wG} {A : Nat → Prop} {a : Nat} {ws : va_W} {H0 : Heap} {own : String}
theorem x_cb {y : MethodName} {bytes : ByteArray} {n2 d na index : Nat} {ret : Option FieldType} (X : Sx p m c cc nL s args own g) (yf : yfc y bytes n2 ret na) (hl : Cond.methodLink own index y ∈ ww) (hR : d + 1 ≤ R.frames ∧ 8 + (n2 + 11) + 30 * d ≤ R.locals) :
    CallB R s args own index y bytes n2 ret (.code y bytes n2 ret :: ww) (rmD d) 0 0 na :=
  callB_of na X.1.2.2.2.2 (ww_GoodIn yf.1) rfl rfl rfl (X.1.2.2.2.2 _ yf.2.1) (X.1.2.2.2.2 _ hl) yf.2.2 hR
theorem x_pre {wc : va_W} {As : List Value} (X : Sx p m c cc nL s args own g) (hP : va_P g.1 vwCl wc H) (hD : va_D A wc) : PreS s H (va_Pc As (Cw g wc H.size)) As :=
  ⟨Cw_blind, fun U hU hW => ⟨rfl, by rw [hU], by rw [hU]; exact hP, va_K.moved hW.alike X.2.1, hD.weaken (fun _ _ _ _ => trivial), nst_warm hW X.2.2⟩⟩
theorem x_rV {y : MethodName} {bytes : ByteArray} {n2 d na index b : Nat} {ret : Option FieldType} {As : List Value} {wc wr : va_W} {Qc : Array Value → State → Outcome → State → Prop} {free : Addr → Prop} {ci N : Nat} {T : u_T} {fs : List Value}
    (X : Sx p m c cc nL s args own g) (hM : Met l y (.code y bytes n2 ret :: ww) (rmD d) (va_Pc (.ref b :: As) (Cw g wc H.size)) Qc 0 0 free) (yf : yfc y bytes n2 ret na) (yi : yin y) (hl : Cond.methodLink own index y ∈ ww) (hR : d + 1 ≤ R.frames ∧ 8 + (n2 + 11) + 30 * d ≤ R.locals)
    (hP : va_P g.1 vwCl ws H) (hD : va_D A ws) (hcut : ws.Perm (wc ++ wr)) (q0 : Nat) (hq : wc[q0]? = some (b, .inr (ci, fs))) (hci : vwCl[ci]? = some (y.cls, T, N))
    (hll : lv_has ls nL lv) (hna : As.length = na) (hst : st = As.reverse ++ .ref b :: rest) (hW : (rest.map fun v => v.category).sum ≤ 8) (hdg : decode cc pc = .ok (.invokevirtual index, 3)) (hcs : cells ≤ R.cells ∧ slots ≤ R.slots) :
    va_Run p l e R s m args below meth c H locs cells slots 0 0 (F0 m pc ls st) rest (Qc (Value.ref b :: As).toArray) free := by
  have hPc := wo_P_perm hcut hP
  have hDc := wo_D_left (wo_D_perm hcut hD)
  have hPw : va_P g.1 vwCl wc H := wo_P_mem.mpr fun q h => wo_P_mem.mp hPc q (List.mem_append_left _ h)
  have pre := x_pre (As := .ref b :: As) X hPw hDc
  exact va_runV X.1 hM ⟨x_cb X yf hl hR, X.1.2.2.2.2 _ yi.1, X.1.2.2.2.2 _ yi.2⟩ ⟨pre.1, va_recv X.2.1 hPw hci hq, pre.2⟩ rfl hna hll.1 hst (lv_room hW) hdg hcs
theorem x_rS {y : MethodName} {bytes : ByteArray} {n2 d na index : Nat} {ret : Option FieldType} {As : List Value} {wc wr : va_W} {Qc : Array Value → State → Outcome → State → Prop} {free : Addr → Prop}
    (X : Sx p m c cc nL s args own g) (hM : Met l y (.code y bytes n2 ret :: ww) (rmD d) (va_Pc As (Cw g wc H.size)) Qc 0 0 free) (yf : yfc y bytes n2 ret na) (yi : Cond.static y ∈ ww) (hl : Cond.methodLink own index y ∈ ww) (hR : d + 1 ≤ R.frames ∧ 8 + (n2 + 11) + 30 * d ≤ R.locals)
    (hP : va_P g.1 vwCl ws H) (hD : va_D A ws) (hcut : ws.Perm (wc ++ wr))
    (hll : lv_has ls nL lv) (hna : As.length = na) (hst : st = As.reverse ++ rest) (hW : (rest.map fun v => v.category).sum ≤ 8) (hdg : decode cc pc = .ok (.invokestatic index, 3)) (hcs : cells ≤ R.cells ∧ slots ≤ R.slots) :
    va_Run p l e R s m args below meth c H locs cells slots 0 0 (F0 m pc ls st) rest (Qc As.toArray) free := by
  have hPc := wo_P_perm hcut hP
  have hDc := wo_D_left (wo_D_perm hcut hD)
  have hPw : va_P g.1 vwCl wc H := wo_P_mem.mpr fun q h => wo_P_mem.mp hPc q (List.mem_append_left _ h)
  exact va_runS X.1 hM ⟨x_cb X yf hl hR, X.1.2.2.2.2 _ yi⟩ (x_pre (As := As) X hPw hDc) rfl hna hll.1 hst (lv_room hW) hdg hcs
/-- a private static method of the class around -/
theorem x_rN {y : MethodName} {bytes : ByteArray} {n2 d na index : Nat} {ret : Option FieldType} {As : List Value} {wc wr : va_W} {Qc : Array Value → State → Outcome → State → Prop} {free : Addr → Prop} {host : String}
    (X : Sx p m c cc nL s args own g) (hM : Met l y (.code y bytes n2 ret :: ww) (rmD d) (va_Pc As (Cw g wc H.size)) Qc 0 0 free) (yf : yfc y bytes n2 ret na) (yi : Cond.static y ∈ ww) (hl : va_Nw (.methodLinkNest own index y host) s) (hR : d + 1 ≤ R.frames ∧ 8 + (n2 + 11) + 30 * d ≤ R.locals)
    (hP : va_P g.1 vwCl ws H) (hD : va_D A ws) (hcut : ws.Perm (wc ++ wr))
    (hll : lv_has ls nL lv) (hna : As.length = na) (hst : st = As.reverse ++ rest) (hW : (rest.map fun v => v.category).sum ≤ 8) (hdg : decode cc pc = .ok (.invokestatic index, 3)) (hcs : cells ≤ R.cells ∧ slots ≤ R.slots) :
    va_Run p l e R s m args below meth c H locs cells slots 0 0 (F0 m pc ls st) rest (Qc As.toArray) free := by
  have hPc := wo_P_perm hcut hP
  have hDc := wo_D_left (wo_D_perm hcut hD)
  have hPw : va_P g.1 vwCl wc H := wo_P_mem.mpr fun q h => wo_P_mem.mp hPc q (List.mem_append_left _ h)
  exact va_runSN X.1 hM ⟨va_cnB na X.1.2.2.2.2 (ww_GoodIn yf.1) rfl rfl rfl hl (X.1.2.2.2.2 _ yf.2.1) yf.2.2 hR, X.1.2.2.2.2 _ yi, trivial⟩ (x_pre (As := As) X hPw hDc) rfl hna hll.1 hst (lv_room hW) hdg hcs
theorem x_goI {wc wr w1 wn : va_W} {rv : Int32} {av : Array Value} {st0 : List Value} (hr : va_Run p l e R s m args below meth c H locs cells slots 0 0 (F0 m pc ls st0) rest (QI g (va_A wc H.size) rv w1 av) (va_A wc H.size))
    (hP : va_P g.1 vwCl ws H) (hD : va_D A ws) (hS : va_S A H0 H locs) (hA : ∀ q, H0.size ≤ q → A q) (hcut : ws.Perm (wc ++ wr)) (hback : (wr ++ w1).Perm wn)
    (kk : ∀ (H1 : Heap) (locs1 : List Loc), va_P g.1 vwCl wn H1 → va_D A wn → va_S A H0 H1 locs1 → W p l e R s m args below meth c H1 locs1 cells slots Q (F0 m (pc + 3) ls (.int rv :: rest))) : W p l e R s m args below meth c H locs cells slots Q (F0 m pc ls st0) := by
  have hF := wo_free hD hS hA hcut
  refine va_calli hr hS (fun q _ h => hF q h) hF (fun r u t H1 locs1 ht hvm hw hB hz1 hk1 hS1 => ?_)
  obtain ⟨hP1, hD1⟩ := hB
  rw [ht] at hP1
  obtain ⟨hPn, hDn⟩ := wo_join hP hD hcut hback hk1 hF hP1 hD1
  have hw : r = rv := hw
  rw [hw]
  exact kk H1 locs1 hPn hDn hS1
theorem x_goV {wc wr w1 wn : va_W} {av : Array Value} {st0 : List Value} (hr : va_Run p l e R s m args below meth c H locs cells slots 0 0 (F0 m pc ls st0) rest (QV g (va_A wc H.size) w1 av) (va_A wc H.size))
    (hP : va_P g.1 vwCl ws H) (hD : va_D A ws) (hS : va_S A H0 H locs) (hA : ∀ q, H0.size ≤ q → A q) (hcut : ws.Perm (wc ++ wr)) (hback : (wr ++ w1).Perm wn)
    (kk : ∀ (H1 : Heap) (locs1 : List Loc), va_P g.1 vwCl wn H1 → va_D A wn → va_S A H0 H1 locs1 → W p l e R s m args below meth c H1 locs1 cells slots Q (F0 m (pc + 3) ls rest)) : W p l e R s m args below meth c H locs cells slots Q (F0 m pc ls st0) := by
  have hF := wo_free hD hS hA hcut
  refine va_callv hr hS (fun q _ h => hF q h) hF (fun u t H1 locs1 ht hvm hw hB hz1 hk1 hS1 => ?_)
  obtain ⟨hP1, hD1⟩ := hB
  rw [ht] at hP1
  obtain ⟨hPn, hDn⟩ := wo_join hP hD hcut hback hk1 hF hP1 hD1
  exact kk H1 locs1 hPn hDn hS1
theorem x_goQ {wc wr w1 wn : va_W} {rq : Option Nat} {v : Value} {av : Array Value} {st0 : List Value} (hr : va_Run p l e R s m args below meth c H locs cells slots 0 0 (F0 m pc ls st0) rest (QQ g (va_A wc H.size) rq w1 av) (va_A wc H.size))
    (hP : va_P g.1 vwCl ws H) (hD : va_D A ws) (hS : va_S A H0 H locs) (hA : ∀ q, H0.size ≤ q → A q) (hcut : ws.Perm (wc ++ wr)) (hback : (wr ++ w1).Perm wn) (hv : va_rf rq = v)
    (kk : ∀ (H1 : Heap) (locs1 : List Loc), va_P g.1 vwCl wn H1 → va_D A wn → va_S A H0 H1 locs1 → W p l e R s m args below meth c H1 locs1 cells slots Q (F0 m (pc + 3) ls (v :: rest))) : W p l e R s m args below meth c H locs cells slots Q (F0 m pc ls st0) := by
  have hF := wo_free hD hS hA hcut
  refine va_callq hr hS (fun q _ h => hF q h) hF (fun r u t H1 locs1 ht hvm hw hB hz1 hk1 hS1 => ?_)
  obtain ⟨hP1, hD1⟩ := hB
  rw [ht] at hP1
  obtain ⟨hPn, hDn⟩ := wo_join hP hD hcut hback hk1 hF hP1 hD1
  have hw : r = rq := hw
  rw [hw, hv]
  exact kk H1 locs1 hPn hDn hS1
/-! ends -/
theorem x_iret {rv v : Int32} {w1 : va_W} (X : Sx p m c cc nL s args own g) (hr : meth.sig.returnType = some .int) (hlocks : meth.locks = false) (hP : va_P g.1 vwCl w1 H) (hD : va_D A w1) (hS : va_S A s.heap H locs) (ev : v = rv) (hdg : decode cc pc = .ok (.ireturn, 1)) :
    W p l e R s m args below meth c H locs 0 0 (MQ below (QI g A rv w1) args s 0 0 A) (F0 m pc ls [.int v]) :=
  W.iret X.1.1 X.1.2.1 hr (fun t ht hW => ⟨⟨v, (), rfl, ev, by rw [ht]; exact hP, hD⟩, hS.F ht⟩) hS.2.2 hdg hlocks
theorem x_zret {rv v : Int32} {w1 : va_W} (X : Sx p m c cc nL s args own g) (hr : meth.sig.returnType = some .boolean) (hlocks : meth.locks = false) (hn : narrow .boolean (.int v) = .int v) (hP : va_P g.1 vwCl w1 H) (hD : va_D A w1) (hS : va_S A s.heap H locs) (ev : v = rv) (hdg : decode cc pc = .ok (.ireturn, 1)) :
    W p l e R s m args below meth c H locs 0 0 (MQ below (QI g A rv w1) args s 0 0 A) (F0 m pc ls [.int v]) :=
  W.zret X.1.1 X.1.2.1 hr hn (fun t ht hW => ⟨⟨v, (), rfl, ev, by rw [ht]; exact hP, hD⟩, hS.F ht⟩) hS.2.2 hdg hlocks
theorem x_vret {w1 : va_W} (X : Sx p m c cc nL s args own g) (hr : meth.sig.returnType = none) (hlocks : meth.locks = false) (hP : va_P g.1 vwCl w1 H) (hD : va_D A w1) (hS : va_S A s.heap H locs) (hdg : decode cc pc = .ok (.return_, 1)) :
    W p l e R s m args below meth c H locs 0 0 (MQ below (QV g A w1) args s 0 0 A) (F0 m pc ls []) :=
  W.vret X.1.1 X.1.2.1 hr (fun t ht hW => ⟨⟨(), rfl, trivial, by rw [ht]; exact hP, hD⟩, hS.F ht⟩) hS.2.2 hdg hlocks
theorem x_aret {rq : Option Nat} {v : Value} {w1 : va_W} {cn : String} (X : Sx p m c cc nL s args own g) (hr : meth.sig.returnType = some (.object cn)) (hlocks : meth.locks = false) (hP : va_P g.1 vwCl w1 H) (hD : va_D A w1) (hS : va_S A s.heap H locs) (ev : v = va_rf rq) (hdg : decode cc pc = .ok (.areturn, 1)) :
    W p l e R s m args below meth c H locs 0 0 (MQ below (QQ g A rq w1) args s 0 0 A) (F0 m pc ls [v]) := by
  subst ev
  exact W.aret X.1.1 X.1.2.1 hr (Or.inl ⟨cn, rfl⟩) (va_rf_or rq) (fun t ht hW => ⟨⟨rq, (), rfl, rfl, by rw [ht]; exact hP, hD⟩, hS.F ht⟩) hS.2.2 hdg hlocks
/-! fields and arrays -/
theorem x_get {ref C : String} {T : u_T} {N ci index : Nat} {fs : List Value} {v : Value} (X : Sx p m c cc nL s args own g) (q0 k : Nat) (hin : ∀ w ∈ u_ws C T N, w ∈ ww) (hP : va_P g.1 vwCl ws H) (he : ws[q0]? = some (a, .inr (ci, fs))) (hc : vwCl[ci]? = some (C, T, N)) (hk : k < N)
    (hlink : Cond.fieldLink own index ref (T k).2.1 (T k).2.2.1 ∈ ww) (href : (T k).1 = ref) (hv : fs[k]? = some v) (hdg : decode cc pc = .ok (.getfield index, 3))
    (kk : W p l e R s m args below meth c H locs cells slots Q (F0 m (pc + 3) ls (v :: rest))) : W p l e R s m args below meth c H locs cells slots Q (F0 m pc ls (.ref a :: rest)) :=
  va_get X.1.1 X.1.2.1 X.1.2.2.2.2 hin X.1.2.2.2.1 X.2.1 hP q0 he hc k hk (X.1.2.2.2.2 _ hlink) (fun x h => by rw [href] at h; exact h) hv hdg kk
theorem x_put {ref C : String} {T : u_T} {N ci index : Nat} {fs : List Value} {v : Value} {ws2 : va_W} {ty0 : Nat → FieldType} (X : Sx p m c cc nL s args own g) (q0 k : Nat) (hin : ∀ w ∈ u_ws C T N, w ∈ ww) (hty : ∀ k, k < N → parseFieldDescriptor (T k).2.2.1 = some (ty0 k)) (hnm : ∀ a, a < N → ∀ b, b < N → a ≠ b → (T a).2.1 ≠ (T b).2.1)
    (hP : va_P g.1 vwCl ws H) (hD : va_D A ws) (hS : va_S A H0 H locs) (he : ws[q0]? = some (a, .inr (ci, fs))) (hc : vwCl[ci]? = some (C, T, N)) (hk : k < N)
    (hlink : Cond.fieldLink own index ref (T k).2.1 (T k).2.2.1 ∈ ww) (href : (T k).1 = ref) (hfin : (T k).2.2.2 = false) (hn : narrow (ty0 k) v = v) (hfit : fits (ty0 k) v = true) (hl : k < fs.length)
    (hw : ws.set q0 (a, .inr (ci, fs.set k v)) = ws2) (hdg : decode cc pc = .ok (.putfield index, 3))
    (kk : ∀ (H1 : Heap) (locs1 : List Loc), va_P g.1 vwCl ws2 H1 → va_D A ws2 → va_S A H0 H1 locs1 → W p l e R s m args below meth c H1 locs1 cells slots Q (F0 m (pc + 3) ls rest)) : W p l e R s m args below meth c H locs cells slots Q (F0 m pc ls (v :: .ref a :: rest)) := by
  subst hw
  exact va_put X.1.1 X.1.2.1 X.1.2.2.2.2 hin ty0 hty hnm X.1.2.2.2.1 X.2.1 hP hD hS q0 he hc k hk (X.1.2.2.2.2 _ hlink) (fun x h => by rw [href] at h; exact h) hfin (hty k hk) hn hfit hl hdg kk
theorem x_in {i : Int32} {j n : Nat} (hi : i = nI j) (hj : j < n) (hn : n < 2 ^ 31) : vp_in i n ∧ i.toNatClampNeg = j := by
  subst hi
  exact ⟨vp_in_nI hj hn, nI_clamp (Nat.lt_trans hj hn)⟩
theorem x_iald {n : Nat} {f : Nat → Int32} {i v : Int32} (X : Sx p m c cc nL s args own g) (q0 j : Nat) (hP : va_P g.1 vwCl ws H) (he : ws[q0]? = some (a, .inl (g.2 0, n, .inl f))) (hi : i = nI j) (hj : j < n) (hn : n < 2 ^ 31) (hv : f j = v) (hdg : decode cc pc = .ok (.iaload, 1))
    (kk : W p l e R s m args below meth c H locs cells slots Q (F0 m (pc + 1) ls (.int v :: rest))) : W p l e R s m args below meth c H locs cells slots Q (F0 m pc ls (.int i :: .ref a :: rest)) := by
  obtain ⟨h1, h2⟩ := x_in hi hj hn
  refine va_iald X.1.1 X.1.2.1 X.2.1 hP q0 0 he rfl h1 hdg ?_
  rw [h2, hv]; exact kk
theorem x_cald {n : Nat} {f : Nat → Int32} {i v : Int32} (X : Sx p m c cc nL s args own g) (q0 j : Nat) (hP : va_P g.1 vwCl ws H) (he : ws[q0]? = some (a, .inl (g.2 1, n, .inl f))) (hi : i = nI j) (hj : j < n) (hn : n < 2 ^ 31) (hv : f j = v) (hdg : decode cc pc = .ok (.caload, 1))
    (kk : W p l e R s m args below meth c H locs cells slots Q (F0 m (pc + 1) ls (.int v :: rest))) : W p l e R s m args below meth c H locs cells slots Q (F0 m pc ls (.int i :: .ref a :: rest)) := by
  obtain ⟨h1, h2⟩ := x_in hi hj hn
  refine va_cald X.1.1 X.1.2.1 X.2.1 hP q0 1 he rfl h1 hdg ?_
  rw [h2, hv]; exact kk
theorem x_aald {n : Nat} {f : Nat → Option Nat} {i : Int32} {v : Value} {C : String} {cA : ClassId} (X : Sx p m c cc nL s args own g) (q0 t0 j : Nat) (hP : va_P g.1 vwCl ws H) (he : ws[q0]? = some (a, .inl (cA, n, .inr (.inr (.inr (.inr f)))))) (ht : (tysG g)[t0]? = some (cA, .object C)) (hi : i = nI j) (hj : j < n) (hn : n < 2 ^ 31) (hv : va_rf (f j) = v) (hdg : decode cc pc = .ok (.aaload, 1))
    (kk : W p l e R s m args below meth c H locs cells slots Q (F0 m (pc + 1) ls (v :: rest))) : W p l e R s m args below meth c H locs cells slots Q (F0 m pc ls (.int i :: .ref a :: rest)) := by
  obtain ⟨h1, h2⟩ := x_in hi hj hn
  refine va_aldq X.1.1 X.1.2.1 X.2.1 hP q0 t0 he ht h1 hdg ?_
  rw [h2, hv]; exact kk
theorem x_iast {n : Nat} {f : Nat → Int32} {i v : Int32} {ws2 : va_W} (X : Sx p m c cc nL s args own g) (q0 j : Nat) (hP : va_P g.1 vwCl ws H) (hD : va_D A ws) (hS : va_S A H0 H locs) (he : ws[q0]? = some (a, .inl (g.2 0, n, .inl f))) (hi : i = nI j) (hj : j < n) (hn : n < 2 ^ 31) (hw : ws.set q0 (a, .inl (g.2 0, n, .inl (upd f j v))) = ws2) (hdg : decode cc pc = .ok (.iastore, 1))
    (kk : ∀ (H1 : Heap) (locs1 : List Loc), va_P g.1 vwCl ws2 H1 → va_D A ws2 → va_S A H0 H1 locs1 → W p l e R s m args below meth c H1 locs1 cells slots Q (F0 m (pc + 1) ls rest)) : W p l e R s m args below meth c H locs cells slots Q (F0 m pc ls (.int v :: .int i :: .ref a :: rest)) := by
  obtain ⟨h1, h2⟩ := x_in hi hj hn
  subst hw
  refine va_iast X.1.1 X.1.2.1 X.2.1 hP hD hS q0 0 he rfl h1 hdg ?_
  rw [h2]; exact kk
theorem x_cast {n : Nat} {f : Nat → Int32} {i v v2 : Int32} {ws2 : va_W} (X : Sx p m c cc nL s args own g) (q0 j : Nat) (hP : va_P g.1 vwCl ws H) (hD : va_D A ws) (hS : va_S A H0 H locs) (he : ws[q0]? = some (a, .inl (g.2 1, n, .inl f))) (hi : i = nI j) (hj : j < n) (hn : n < 2 ^ 31) (hv : vp_nar .char v = v2) (hw : ws.set q0 (a, .inl (g.2 1, n, .inl (upd f j v2))) = ws2) (hdg : decode cc pc = .ok (.castore, 1))
    (kk : ∀ (H1 : Heap) (locs1 : List Loc), va_P g.1 vwCl ws2 H1 → va_D A ws2 → va_S A H0 H1 locs1 → W p l e R s m args below meth c H1 locs1 cells slots Q (F0 m (pc + 1) ls rest)) : W p l e R s m args below meth c H locs cells slots Q (F0 m pc ls (.int v :: .int i :: .ref a :: rest)) := by
  obtain ⟨h1, h2⟩ := x_in hi hj hn
  subst hw; subst hv
  refine va_cast X.1.1 X.1.2.1 X.2.1 hP hD hS q0 1 he rfl h1 hdg ?_
  rw [h2]; exact kk
theorem x_alen {cA : ClassId} {x : vp_A} {ty : FieldType} {v : Int32} (X : Sx p m c cc nL s args own g) (q0 t0 : Nat) (hP : va_P g.1 vwCl ws H) (he : ws[q0]? = some (a, .inl (cA, x))) (ht : (tysG g)[t0]? = some (cA, ty)) (hv : Int32.ofNat x.1 = v) (hdg : decode cc pc = .ok (.arraylength, 1))
    (kk : W p l e R s m args below meth c H locs cells slots Q (F0 m (pc + 1) ls (.int v :: rest))) : W p l e R s m args below meth c H locs cells slots Q (F0 m pc ls (.ref a :: rest)) :=
  va_alen X.1.1 X.1.2.1 X.2.1 hP q0 t0 he ht hv hdg kk
/-! Math.max, min, abs -/
def mok (y : MethodName) (b : ByteArray) (n : Nat) : Prop := Cond.static y ∈ ww ∧ Cond.code y b n (some .int) ∈ ww
theorem x_max {x y : Int32} {index : Nat} (X : Sx p m c cc nL s args own g) (hll : lv_has ls nL lv) (hl : Cond.methodLink own index Lib.Math.max.name ∈ ww) (hm : mok Lib.Math.max.name Lib.Math.max.code 2) (hi : Cond.initialized "java/lang/Math" ∈ ww) (hR : 1 ≤ R.frames ∧ (rest.map fun v => v.category).sum + 13 ≤ R.locals) (hcs : cells ≤ R.cells ∧ slots ≤ R.slots) (hdg : decode cc pc = .ok (.invokestatic index, 3))
    (kk : W p l e R s m args below meth c H locs cells slots Q (F0 m (pc + 3) ls (.int (if x < y then y else x) :: rest))) : W p l e R s m args below meth c H locs cells slots Q (F0 m pc ls (.int y :: .int x :: rest)) :=
  va_mmax X.1.1 X.1.2.1 (X.1.2.2.1.trans hll.1.symm) X.1.2.2.2.1 (X.1.2.2.2.2 _ hl) (X.1.2.2.2.2 _ hm.1) (X.1.2.2.2.2 _ hi) (X.1.2.2.2.2 _ hm.2) hR.1 hR.2 hcs.1 hcs.2 hdg kk
theorem x_min {x y : Int32} {index : Nat} (X : Sx p m c cc nL s args own g) (hll : lv_has ls nL lv) (hl : Cond.methodLink own index Lib.Math.min.name ∈ ww) (hm : mok Lib.Math.min.name Lib.Math.min.code 2) (hi : Cond.initialized "java/lang/Math" ∈ ww) (hR : 1 ≤ R.frames ∧ (rest.map fun v => v.category).sum + 13 ≤ R.locals) (hcs : cells ≤ R.cells ∧ slots ≤ R.slots) (hdg : decode cc pc = .ok (.invokestatic index, 3))
    (kk : W p l e R s m args below meth c H locs cells slots Q (F0 m (pc + 3) ls (.int (if y < x then y else x) :: rest))) : W p l e R s m args below meth c H locs cells slots Q (F0 m pc ls (.int y :: .int x :: rest)) :=
  va_mmin X.1.1 X.1.2.1 (X.1.2.2.1.trans hll.1.symm) X.1.2.2.2.1 (X.1.2.2.2.2 _ hl) (X.1.2.2.2.2 _ hm.1) (X.1.2.2.2.2 _ hi) (X.1.2.2.2.2 _ hm.2) hR.1 hR.2 hcs.1 hcs.2 hdg kk
theorem x_abs {x : Int32} {index : Nat} (X : Sx p m c cc nL s args own g) (hll : lv_has ls nL lv) (hl : Cond.methodLink own index Lib.Math.abs.name ∈ ww) (hm : mok Lib.Math.abs.name Lib.Math.abs.code 1) (hi : Cond.initialized "java/lang/Math" ∈ ww) (hR : 1 ≤ R.frames ∧ (rest.map fun v => v.category).sum + 13 ≤ R.locals) (hcs : cells ≤ R.cells ∧ slots ≤ R.slots) (hdg : decode cc pc = .ok (.invokestatic index, 3))
    (kk : W p l e R s m args below meth c H locs cells slots Q (F0 m (pc + 3) ls (.int (if 0 ≤ x then x else 0 - x) :: rest))) : W p l e R s m args below meth c H locs cells slots Q (F0 m pc ls (.int x :: rest)) :=
  va_mabs X.1.1 X.1.2.1 (X.1.2.2.1.trans hll.1.symm) X.1.2.2.2.1 (X.1.2.2.2.2 _ hl) (X.1.2.2.2.2 _ hm.1) (X.1.2.2.2.2 _ hi) (X.1.2.2.2.2 _ hm.2) hR.1 hR.2 hcs.1 hcs.2 hdg kk
/-- System.arraycopy of a whole row of ints -/
theorem x_copy {index n : Nat} {f f2 : Nat → Int32} {a0 : Nat} {ws2 : va_W} (X : Sx p m c cc nL s args own g) (hll : lv_has ls nL lv) (hl : Cond.methodLink own index arraycopyName ∈ ww) (hm : Cond.native arraycopyName ∈ ww ∧ Cond.static arraycopyName ∈ ww ∧ Cond.initialized "java/lang/System" ∈ ww)
    (hP : va_P g.1 vwCl ws H) (hD : va_D A ws) (hS : va_S A H0 H locs) (q0 q1 : Nat) (h0 : ws[q0]? = some (a0, .inl (g.2 0, n, .inl f))) (h1 : ws[q1]? = some (a, .inl (g.2 0, n, .inl f2))) (hn : n < 2 ^ 31)
    (hR : 1 ≤ R.frames ∧ (rest.map fun v => v.category).sum + (nativeFrameWords "java/lang/System" "arraycopy" 5 + 11) ≤ R.locals) (hw : ws.set q1 (a, .inl (g.2 0, n, .inl f)) = ws2) (hdg : decode cc pc = .ok (.invokestatic index, 3))
    (kk : ∀ (H1 : Heap) (locs1 : List Loc), va_P g.1 vwCl ws2 H1 → va_D A ws2 → va_S A H0 H1 locs1 → W p l e R s m args below meth c H1 locs1 cells slots Q (F0 m (pc + 3) ls rest)) : W p l e R s m args below meth c H locs cells slots Q (F0 m pc ls (.int (nI n) :: .int 0 :: .ref a :: .int 0 :: .ref a0 :: rest)) := by
  have c0 : (0 : Int32).toNatClampNeg = 0 := sb_cl0
  have cn : (nI n).toNatClampNeg = n := nI_clamp hn
  refine va_copyi X.1.1 X.1.2.1 (X.1.2.2.1.trans hll.1.symm) X.1.2.2.2.1 (X.1.2.2.2.2 _ hl) (X.1.2.2.2.2 _ hm.1) (X.1.2.2.2.2 _ hm.2.1) (X.1.2.2.2.2 _ hm.2.2) X.2.1 hP hD hS q0 q1 0 0 h0 h1 rfl rfl rfl
    (by decide) (by decide) (nI_pos hn) (by rw [c0, cn]; omega) (by rw [c0, cn]; omega) (fun i _ => rfl) hR.1 hR.2 hdg (fun H1 locs1 hP1 hD1 hS1 => ?_)
  rw [c0, cn] at hP1
  have hq : q1 < ws.length := (List.getElem?_eq_some_iff.mp h1).1
  have hP2 : va_P g.1 vwCl ws2 H1 := by
    rw [← hw]
    intro k q hk
    by_cases e : k = q1
    · subst e
      have h2 := hP1 k (a, .inl (g.2 0, n, .inl (va_cpy f f2 0 0 n))) (by rw [List.getElem?_set_self hq])
      rw [List.getElem?_set_self hq] at hk
      have e3 := (Option.some.inj hk)
      rw [← e3]
      exact wo_row (fun j hj => by rw [pk_cpy_in (Nat.zero_le _) (by omega)]; simp) h2
    · exact hP1 k q (by rw [List.getElem?_set_ne (fun h => e h.symm)] at hk ⊢; exact hk)
  refine kk H1 locs1 hP2 ?_ hS1
  rw [← hw]
  refine wo_D_addr hD1 ?_
  rw [List.map_set, List.map_set]
end XC

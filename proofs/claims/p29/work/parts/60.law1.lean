/-! THE CLAIM OUT OF ONE WALK OF THE LAW'S BODY. Your part is whole_start (and what it stands on); all else here is the same for every law, but numbers. -/
def R_law : String := "TowerFacesLaw"
def lw_P (b : Addr) (xs : List Int32) (args : Array Value) (s : State) : Prop := args = #[.ref b] ∧ s.IntsAt b xs ∧ xs.length ≤ 260 ∧ (Jvm.Cond.and given_1 narrow_1).before args s = true
def lw_Q (_ : Array Value) (s : State) (o : Outcome) (t : State) : Prop := o = .returned (some (.int 1)) ∧ Framed s o t [] 600000 7302250
def lw_Z (below : List Frame) (a : Array Value) (s : State) : State → Prop := fun t => ∃ o, t.status = .running ∧ Ended t below o ∧ lw_Q a s o t
/-- the law's own end, with 1 on the stack, nothing written that was there before, its room as the claim has it -/
theorem lw_ret {p : Program} {l : Launch} {e : Env} {s : State} {m : MethodId} {below : List Frame} {meth : Method} {c : Code} {b : Nat} (hx : p.tables.exec = Jvm.exec) (hb : c.code = code) (hr : meth.sig.returnType = ret) (hlocks : meth.locks = false) {pc : Nat} {H : Heap} {ls : Array Slot} (hdg : decode code pc = .ok (.ireturn, 1)) : W p l e room_1 s m #[Value.ref b] below meth c H [] 600000 7302250 (lw_Z below #[Value.ref b] s) (F0 m pc ls [.int 1]) := by
  intro T hT X
  obtain ⟨fs, hret, hrun, hended, hW, hframe⟩ := X.leave (v := some (.int 1)) (hlocks := hlocks) (fun h => by rw [hr] at h; cases h)
  have hmeth' : T.vm.method? m = some meth := X.method'
  refine ⟨T.setFrames fs, ?_, .returned (some (.int 1)), hrun, hended, rfl, ⟨_, rfl⟩, hW, hframe⟩
  jvm_step X.here [X.here.top, hx, hb, hdg, hmeth', hr, ret, narrow_b1]
  (try refine ⟨rfl, ?_⟩); (try refine ⟨rfl, ?_⟩)
  first | (intro acts; rw [hret _ acts rfl rfl rfl]) | rw [hret _ _ rfl rfl rfl]
  exact Steps.refl _
/-- what holds at the law's entry: the machine, the code, the tables' words (any of lw_tbl by 'hts w (by decide +kernel)'), the script of L ints xs at the cell b, what the Statement gives of the start (any of its parts by flat_of_before) -/
def lw_At (p : Program) (s : State) (m : MethodId) (meth : Method) (c : Code) (b L : Nat) (xs : Nat → Int32) : Prop :=
  p.tables.exec = Jvm.exec ∧ c.code = code ∧ meth.sig.returnType = ret ∧ c.maxLocals = 22 ∧ s.vm.findClass R_law = some m.cls ∧ (∀ w ∈ lw_tbl, w.before #[Value.ref b] s = true) ∧ va_X b L xs s s.heap ∧ b < s.heap.size ∧ meth.locks = false ∧ (Jvm.Cond.and given_1 narrow_1).before #[Value.ref b] s = true

abbrev AL (s : State) : Nat → Prop := fun a => s.heap.size ≤ a
/-- what the walk of the law stands on -/
def LwX (p : Program) (s : State) (m : MethodId) (c : Code) (g : wG) (tt : Nat → Nat) (b L : Nat) (xs : Nat → Int32) (A : Nat → Prop) : Prop := Sx p m c code 22 s #[Value.ref b] RL g ∧ Stt tt A s ∧ va_T .int b L (fun j => .int (xs j)) A s s.heap ∧ L ≤ 260 ∧ (∀ q, s.heap.size ≤ q → A q)
/-- the law at pc, its locals lv, its cells ws -/
def LwG (p : Program) (l : Launch) (e : Env) (s : State) (m : MethodId) (below : List Frame) (meth : Method) (c : Code) (g : wG) (b : Nat) (A : Nat → Prop) (lv : List (Nat × Value)) (pc cl sl : Nat) (ws : va_W) : Prop :=
  ∀ (ls : Array Slot) (H : Heap) (locs : List Loc), va_P g.1 vwCl ws H → va_D A ws → va_S A s.heap H locs → lv_has ls 22 lv →
    W p l e room_1 s m #[Value.ref b] below meth c H locs cl sl (lw_Z below #[Value.ref b] s) (F0 m pc ls [])
theorem P_drop {D : va_G} {cl : List vw_C} {a b w : va_W} {H : Heap} (h : va_P D cl ((a ++ b) ++ w) H) : va_P D cl (a ++ w) H := wo_P_mem.mpr fun q hq => wo_P_mem.mp h q (by
  rcases List.mem_append.mp hq with z | z
  · exact List.mem_append_left _ (List.mem_append_left _ z)
  · exact List.mem_append_right _ z)
theorem perm_mid {α : Type} (a b w : List α) : ((a ++ b) ++ w).Perm ((a ++ w) ++ b) := by
  rw [List.append_assoc, List.append_assoc]
  exact List.Perm.append_left a List.perm_append_comm
theorem D_drop {A : Nat → Prop} {a b w : va_W} (h : va_D A ((a ++ b) ++ w)) : va_D A (a ++ w) := wo_D_left (wo_D_perm (perm_mid a b w) h)
section LWA
variable {p : Program} {l : Launch} {e : Env} {R : Room} {s : State} {m : MethodId} {args : Array Value} {below : List Frame} {meth : Method} {c : Code} {H : Heap} {locs : List Loc} {cells slots : Nat} {Q : State → Prop}
variable {cc : ByteArray} {pc nL : Nat} {ls : Array Slot} {lv : List (Nat × Value)} {rest st : List Value} {g : wG} {A : Nat → Prop} {ws : va_W} {own : String}
/-- a static call that knows the script -/
theorem x_rSX {y : MethodName} {bytes : ByteArray} {n2 d na index b L : Nat} {xs : Nat → Int32} {ret : Option FieldType} {As : List Value} {Qc : Array Value → State → Outcome → State → Prop} {free : Addr → Prop}
    (X : Sx p m c cc nL s args own g) (hT : va_T .int b L (fun j => .int (xs j)) A s s.heap) (hM : Met l y (.code y bytes n2 ret :: ww) (rmD d) (va_Pc As (CwX g b L xs H.size)) Qc 0 0 free) (yf : yfc y bytes n2 ret na) (yi : Cond.static y ∈ ww) (hl : Cond.methodLink own index y ∈ ww) (hR : d + 1 ≤ R.frames ∧ 8 + (n2 + 11) + 30 * d ≤ R.locals)
    (hP : va_P g.1 vwCl ws H) (hD : va_D A ws) (hS : va_S A s.heap H locs) (hA : ∀ q, s.heap.size ≤ q → A q)
    (hll : lv_has ls nL lv) (hna : As.length = na) (hst : st = As.reverse ++ rest) (hW : (rest.map fun v => v.category).sum ≤ 8) (hdg : decode cc pc = .ok (.invokestatic index, 3)) (hcs : cells ≤ R.cells ∧ slots ≤ R.slots) :
    va_Run p l e R s m args below meth c H locs cells slots 0 0 (F0 m pc ls st) rest (Qc As.toArray) free := by
  have hF := wo_free hD hS hA (p_none ws)
  have hP0 : va_P g.1 vwCl [] H := fun k q h => by simp at h
  have hD0 : va_D (fun _ => True) ([] : va_W) := ⟨fun i j p q h => by simp at h, fun k q h => by simp at h⟩
  have pre : PreS s H (va_Pc As (CwX g b L xs H.size)) As := ⟨CwX_blind, fun U hU hW => ⟨rfl, ⟨by rw [hU], by rw [hU]; exact hP0, va_K.moved hW.alike X.2.1, hD0, nst_warm hW X.2.2⟩, by
    subst hU
    exact ((hT.kept hS.2.1).moved hW.alike).narrow hF⟩⟩
  exact va_runS X.1 hM ⟨x_cb X yf hl hR, X.1.2.2.2.2 _ yi⟩ pre rfl hna hll.1 hst (lv_room hW) hdg hcs
end LWA
theorem perm_tl {α : Type} (a w : List α) (x : α) : ((a ++ w) ++ [x]).Perm ((a ++ [x]) ++ w) := perm_mid a w [x]
theorem perm_b {α : Type} (a b c : α) (w : List α) : (([a, b, c] : List α) ++ w).Perm (([a] ++ w) ++ [b, c]) := perm_mid [a] [b, c] w
theorem perm_b2 {α : Type} (a b c : α) (w : List α) : (([b, c] : List α) ++ ([a] ++ w)).Perm ([a, b, c] ++ w) := List.perm_append_comm.trans (perm_mid [a] w [b, c])
/-- keepers move up -/
def DisI (k : RI) (a m : Nat) (y : RI) : Prop := ∀ i, y i = if a ≤ i ∧ i < m then k (i + 2) else k i
theorem dis_0 (k : RI) (a : Nat) : DisI k a a k := fun i => (if_neg (by omega)).symm
theorem dis_step {k y : RI} {a m : Nat} (h : DisI k a m y) (ha : a ≤ m) : DisI k a (m + 1) (upd y m (y (m + 2))) := by
  intro i
  by_cases e : i = m
  · rw [e, up_s, h, if_neg (by omega), if_pos (by omega)]
  · rw [up_n e, h]
    by_cases g : a ≤ i ∧ i < m
    · rw [if_pos g, if_pos (by omega)]
    · rw [if_neg g, if_neg (by omega)]
theorem dis_end {k y : RI} {a m : Nat} (h : DisI k a m y) (hm : m = 10) : ∀ i, i < 12 → y i = if a ≤ i ∧ i < 10 then k (i + 2) else k i := by
  subst hm; exact fun i _ => h i

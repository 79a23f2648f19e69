/-! THE CLAIM OUT OF ONE WALK OF THE LAW'S BODY. Your part is whole_start (and what it stands on); all else here is the same for every law, but numbers. -/
def R_law : String := "TowerFacesLaw"
def lw_P (b : Addr) (xs : List Int32) (args : Array Value) (s : State) : Prop := args = #[.ref b] ∧ s.IntsAt b xs ∧ xs.length ≤ 1536 ∧ (Jvm.Cond.and given_1 narrow_1).before args s = true
def lw_Q (_ : Array Value) (s : State) (o : Outcome) (t : State) : Prop := o = .returned (some (.int 1)) ∧ Framed s o t [] 600000 7302250
def lw_Z (below : List Frame) (a : Array Value) (s : State) : State → Prop := fun t => ∃ o, t.status = .running ∧ Ended t below o ∧ lw_Q a s o t
/-- the law's own end, with 1 on the stack, nothing written that was there before, its room as the claim has it -/
theorem lw_ret {p : Program} {l : Launch} {e : Env} {s : State} {m : MethodId} {below : List Frame} {meth : Method} {c : Code} {b : Nat} (hx : p.tables.exec = Jvm.exec) (hb : c.code = code) (hr : meth.sig.returnType = ret) (hlocks : meth.locks = false) {pc : Nat} {H : Heap} {ls : Array Slot} (hdg : decode code pc = .ok (.ireturn, 1)) : W p l e room_1 s m #[Value.ref b] below meth c H [] 600000 7302250 (lw_Z below #[Value.ref b] s) (F0 m pc ls [.int 1]) := by
  intro T hT X
  obtain ⟨fs, hret, hrun, hended, hW, hframe⟩ := X.leave (v := some (.int 1)) (hlocks := hlocks) (fun h => by rw [hr] at h; cases h)
  have hmeth' : T.vm.method? m = some meth := X.method'
  refine ⟨T.setFrames fs, ?_, .returned (some (.int 1)), hrun, hended, rfl, ⟨_, rfl⟩, hW, hframe⟩
  jvm_step X.here [X.here.top, hx, hb, hdg, hmeth', hr, ret, narrow_b1]
  (try refine ⟨rfl, ?_⟩); (try refine ⟨rfl, ?_⟩)
  first | (intro acts; rw [hret _ acts rfl rfl rfl]) | rw [hret _ _ rfl rfl rfl]
  exact Steps.refl _
/-- what holds at the law's entry: the machine, the code, the tables' words (any of lw_tbl by 'hts w (by decide +kernel)'), the script of L ints xs at the cell b, what the Statement gives of the start (any of its parts by flat_of_before) -/
def lw_At (p : Program) (s : State) (m : MethodId) (meth : Method) (c : Code) (b L : Nat) (xs : Nat → Int32) : Prop :=
  p.tables.exec = Jvm.exec ∧ c.code = code ∧ meth.sig.returnType = ret ∧ c.maxLocals = 4 ∧ s.vm.findClass R_law = some m.cls ∧ (∀ w ∈ lw_tbl, w.before #[Value.ref b] s = true) ∧ va_X b L xs s s.heap ∧ b < s.heap.size ∧ meth.locks = false ∧ (Jvm.Cond.and given_1 narrow_1).before #[Value.ref b] s = true

abbrev AL (s : State) : Nat → Prop := fun a => s.heap.size ≤ a
/-- the law's loop at pc, the i-th call ahead -/
def LwG (p : Program) (l : Launch) (e : Env) (s : State) (m : MethodId) (below : List Frame) (meth : Method) (c : Code) (g : wG) (b : Nat) (ad : Nat → Nat → Nat) (o : Nat → Nat) (i pc : Nat) (q : CS) (r : MS) : Prop :=
  ∀ (ls : Array Slot) (H : Heap) (locs : List Loc), va_P g.1 vwCl (CW g ad q ++ MW g o r) H → va_D (AL s) (CW g ad q ++ MW g o r) → va_S (AL s) s.heap H locs → lv_has ls 4 [(3, .int (nI i)), (0, .ref b), (1, .ref (ad 8 0)), (2, .ref (o 0))] →
    W p l e room_1 s m #[Value.ref b] below meth c H locs 92 1056 (lw_Z below #[Value.ref b] s) (F0 m pc ls [])
/-- what the walk of the law's loop stands on -/
def LwX (p : Program) (s : State) (m : MethodId) (c : Code) (g : wG) (t : Nat → Nat) (b L : Nat) (xs : Nat → Int32) : Prop := Sx p m c code 4 s #[Value.ref b] R_law g ∧ Stt t (AL s) s ∧ va_X b L xs s s.heap ∧ b < s.heap.size ∧ L ≤ 1536
theorem LwX.A {s : State} : ∀ a : Nat, s.heap.size ≤ a → AL s a := fun _ h => h
section LWA
variable {p : Program} {l : Launch} {e : Env} {s : State} {m : MethodId} {below : List Frame} {meth : Method} {c : Code} {H : Heap} {locs : List Loc} {cells slots : Nat} {Q : State → Prop}
variable {pc : Nat} {ls : Array Slot} {lv : List (Nat × Value)} {rest : List Value} {g : wG} {t : Nat → Nat} {b L : Nat} {xs : Nat → Int32} {i : Nat}
/-- the call's first argument is pushed -/
theorem lw_arg1 (Z : LwX p s m c g t b L xs) (hi : i + 3 ≤ L) (hS : va_S (AL s) s.heap H locs) (hl : lv_has ls 4 lv) (k0 k3 : Nat) (h0 : lv[k0]? = some (0, .ref b)) (h3 : lv[k3]? = some (3, .int (nI i)))
    (d0 : decode code pc = .ok (.aload_n 0, 1)) (d1 : decode code (pc + 1) = .ok (.iload_n 3, 1)) (d2 : decode code (pc + 1 + 1) = .ok (.iconst 1, 1)) (d3 : decode code (pc + 1 + 1 + 1) = .ok (.iadd, 1)) (d4 : decode code (pc + 1 + 1 + 1 + 1) = .ok (.iaload, 1))
    (kk : W p l e room_1 s m #[Value.ref b] below meth c H locs cells slots Q (F0 m (pc + 1 + 1 + 1 + 1 + 1) ls (.int (xs (i + 1)) :: rest))) : W p l e room_1 s m #[Value.ref b] below meth c H locs cells slots Q (F0 m pc ls rest) := by
  obtain ⟨X, hZ, hX, hbl, hL⟩ := Z
  obtain ⟨⟨hx, hb, hml, hown, hts⟩, hK, hN⟩ := X
  refine lv_aload_n hx hb d0 rfl (lv_at hl k0 h0) ?_
  refine lv_iload_n hx hb d1 rfl (lv_at hl k3 h3) ?_
  refine lv_iconst (v := 1) hx hb d2 (by decide) ?_
  refine lv_iadd hx hb d3 ?_
  have e1 : nI i + 1 = nI (i + 1) := nI_add i 1
  have e2 : (nI (i + 1)).toNatClampNeg = i + 1 := nI_clamp (by omega)
  refine va_sld (xs := xs) (L := L) hx hb hX hbl (Nat.not_le.mpr hbl) hS (by rw [e1]; exact vp_in_nI (by omega) (by omega)) d4 ?_
  rw [e1, e2]; exact kk
/-- the call's second argument is pushed -/
theorem lw_arg2 (Z : LwX p s m c g t b L xs) (hi : i + 3 ≤ L) (hS : va_S (AL s) s.heap H locs) (hl : lv_has ls 4 lv) (k0 k3 : Nat) (h0 : lv[k0]? = some (0, .ref b)) (h3 : lv[k3]? = some (3, .int (nI i)))
    (d0 : decode code pc = .ok (.aload_n 0, 1)) (d1 : decode code (pc + 1) = .ok (.iload_n 3, 1)) (d2 : decode code (pc + 1 + 1) = .ok (.iconst 2, 1)) (d3 : decode code (pc + 1 + 1 + 1) = .ok (.iadd, 1)) (d4 : decode code (pc + 1 + 1 + 1 + 1) = .ok (.iaload, 1))
    (kk : W p l e room_1 s m #[Value.ref b] below meth c H locs cells slots Q (F0 m (pc + 1 + 1 + 1 + 1 + 1) ls (.int (xs (i + 2)) :: rest))) : W p l e room_1 s m #[Value.ref b] below meth c H locs cells slots Q (F0 m pc ls rest) := by
  obtain ⟨X, hZ, hX, hbl, hL⟩ := Z
  obtain ⟨⟨hx, hb, hml, hown, hts⟩, hK, hN⟩ := X
  refine lv_aload_n hx hb d0 rfl (lv_at hl k0 h0) ?_
  refine lv_iload_n hx hb d1 rfl (lv_at hl k3 h3) ?_
  refine lv_iconst (v := 2) hx hb d2 (by decide) ?_
  refine lv_iadd hx hb d3 ?_
  have e1 : nI i + 2 = nI (i + 2) := nI_add i 2
  have e2 : (nI (i + 2)).toNatClampNeg = i + 2 := nI_clamp (by omega)
  refine va_sld (xs := xs) (L := L) hx hb hX hbl (Nat.not_le.mpr hbl) hS (by rw [e1]; exact vp_in_nI (by omega) (by omega)) d4 ?_
  rw [e1, e2]; exact kk
end LWA

/-! what the machine's instructions answer, by name -/
abbrev jrem (x y : Int32) : Int32 := x - x / y * y
abbrev jmax (x y : Int32) : Int32 := if x < y then y else x
abbrev jmin (x y : Int32) : Int32 := if y < x then y else x
abbrev jabs (x : Int32) : Int32 := if 0 ≤ x then x else 0 - x
/-! worlds -/
def KW (g : wG) (ka sa wa : Nat) (cnt : Int32) (st wr : Nat → Int32) : va_W := [(ka, .inr (2, [.ref sa, .ref wa, .int cnt])), (sa, .inl (g.2 0, 6, .inl st)), (wa, .inl (g.2 0, 6, .inl wr))]
/-- a tower at the addresses t: t 0 itself, t 1 its row of faces, t 2 to t 5 the faces, t 6 to t 8 the keepers and their rows, t 9 the settings; z: 0 time, 4 the shaft's strain, 5 its slips, 6 faces set, 7 keepers, 8 + 7 f + k the faces; sf, wf the keepers' rows, sg the settings -/
def TW (g : wG) (t : Nat → Nat) (z sf wf sg : Nat → Int32) : va_W := [
  (t 0, .inr (3, [.ref (t 1), .ref (t 6), .ref (t 9), .int (z 0), .int (z 4), .int (z 5), .int (z 6)])),
  (t 1, .inl (g.2 2, 4, .inr (.inr (.inr (.inr (fun k => some (t (2 + k)))))))),
  (t 2, .inr (0, [.int (z 8), .int (z 9), .int (z 10), .int (z 11), .int (z 12), .int (z 13), .int (z 14)])),
  (t 3, .inr (0, [.int (z 15), .int (z 16), .int (z 17), .int (z 18), .int (z 19), .int (z 20), .int (z 21)])),
  (t 4, .inr (0, [.int (z 22), .int (z 23), .int (z 24), .int (z 25), .int (z 26), .int (z 27), .int (z 28)])),
  (t 5, .inr (0, [.int (z 29), .int (z 30), .int (z 31), .int (z 32), .int (z 33), .int (z 34), .int (z 35)])),
  (t 6, .inr (2, [.ref (t 7), .ref (t 8), .int (z 7)])),
  (t 7, .inl (g.2 0, 6, .inl sf)),
  (t 8, .inl (g.2 0, 6, .inl wf)),
  (t 9, .inl (g.2 0, 3, .inl sg))]
/-- the text's reader: its object and the row of its signs -/
def XT (g : wG) (xa sa : Nat) (len pl kd fc ck nu : Int32) (sg : Nat → Int32) : va_W := [(xa, .inr (4, [.ref sa, .int len, .int pl, .int kd, .int fc, .int ck, .int nu])), (sa, .inl (g.2 1, 60, .inl sg))]
theorem p_all {α : Type} (l : List α) : l.Perm (l ++ []) := by rw [List.append_nil]
theorem p_back {α : Type} (l : List α) : ([] ++ l).Perm l := List.Perm.refl _
theorem p_none {α : Type} (l : List α) : l.Perm ([] ++ l) := List.Perm.refl _
theorem p_noneB {α : Type} (l : List α) : (l ++ []).Perm l := by rw [List.append_nil]
theorem wo_perm {α : Type} {ws ws' : List α} (N : Nat) (idx : List Nat) (hN : ws.length = N) (hi : idx.Perm (List.range N)) (h : idx.map (fun i => ws[i]?) = ws'.map some) : ws.Perm ws' := by
  subst hN
  have h1 : ((List.range ws.length).map (fun i => ws[i]?)) = ws.map some := by
    apply List.ext_getElem?
    intro i
    rw [List.getElem?_map, List.getElem?_map]
    rcases Nat.lt_or_ge i ws.length with q | q
    · rw [List.getElem?_range q, List.getElem?_eq_getElem q]; exact congrArg some (List.getElem?_eq_getElem q)
    · rw [List.getElem?_eq_none (by rw [List.length_range]; exact q), List.getElem?_eq_none q]; rfl
  have h2 := hi.map (fun i => ws[i]?)
  rw [h, h1] at h2
  have h3 := h2.filterMap id
  have e : ∀ l : List α, (l.map some).filterMap id = l := by
    intro l
    induction l with
    | nil => rfl
    | cons a t ih => simp
  rw [e, e] at h3
  exact h3.symm
theorem pw {D : va_G} {cl : List vw_C} {ws ws' : va_W} {H : Heap} (e : ws = ws') (h : va_P D cl ws H) : va_P D cl ws' H := e ▸ h
theorem dw {A : Nat → Prop} {ws ws' : va_W} (e : ws = ws') (h : va_D A ws) : va_D A ws' := e ▸ h
/-- the entry of a method of the JDK's -/
theorem x_enterF {l : Launch} {g : wG} {d : Nat} {y : MethodName} {cc : ByteArray} {n : Nat} {ret : Option FieldType} {As : List Value} {wc : va_W} {sz : Nat} {Qc : (Nat → Prop) → Array Value → State → Outcome → State → Prop}
    (hy : plainFor y = true) (hn : (lg_sl As).length ≤ n)
    (body : ∀ p e s m args below meth c, Sx p m c cc n s args y.cls g → meth.sig.returnType = ret → meth.locks = false → ∀ A : Nat → Prop, (∀ q, s.heap.size ≤ q → A q) → va_P g.1 vwCl wc s.heap → va_D A wc → va_S A s.heap s.heap [] → ∀ ls : Array Slot, lv_has ls n (lv_args 0 As) →
      W p l e (rmD d) s m args below meth c s.heap [] 0 0 (MQ below (Qc A) args s 0 0 A) (F0 m 0 ls [])) :
    Met l y (.code y cc n ret :: ww) (rmD d) (va_Pc As (Cw g wc sz)) (Qc (va_A wc sz)) 0 0 (va_A wc sz) := by
  refine va_MetF (cc := cc) (maxL := n) (ret := ret) hy rfl ?_
  intro p e s m args below meth c s₁ B hml hv
  obtain ⟨rfl, hsz, hP, hK, hD0, hN⟩ := hv
  have hts := atoms_spec (ws := .code y cc n ret :: ww) B.pre
  have hown : s.vm.findClass y.cls = some m.cls := findClass_of_methodNamed B.named
  subst hsz
  have hl := lv_entry As (n := n) hn
  rw [lg_entry_eq]
  generalize (lg_sl As ++ List.replicate (n - (lg_sl As).length) Slot.unset).toArray = ls at hl ⊢
  exact body p e s m _ below meth c ⟨⟨B.exec, B.bytes, hml, hown, fun w hw => hts w (List.mem_cons_of_mem _ hw)⟩, hK, hN⟩ B.returns B.notSynchronized (va_A wc s.heap.size) (fun q h => Or.inr h) hP hD0.self va_S.rf ls hl

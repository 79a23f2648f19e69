/-! the words that every method is given: all good words of the tables -/
def ww : List Cond := lw_tbl.filter goodWord
theorem ww_of {w : Cond} (h : w ∈ lw_tbl) (hg : goodWord w = true) : w ∈ ww := List.mem_filter.mpr ⟨h, hg⟩
theorem ww_tbl : ∀ w ∈ ww, w ∈ lw_tbl := fun _ h => (List.mem_filter.mp h).1
theorem ww_good {w : Cond} (h : w ∈ ww) : (w.onTables && w.keeps) = true ∨ ∃ ty, w = .arrayClass ty := good_of_word (List.mem_filter.mp h).2
theorem ww_GoodIn {c : Cond} (hc : c ∈ ww) : GoodIn ww (c :: ww) := fun w hw => (List.mem_cons.mp hw).elim (fun e => by rw [e]; exact ⟨hc, ww_good hc⟩) (fun h => ⟨h, ww_good h⟩)
/-! worlds: what a list of cells says does not hang on its order -/
theorem wo_P_mem {D : va_G} {cl : List vw_C} {ws : va_W} {H : Heap} : va_P D cl ws H ↔ ∀ q ∈ ws, va_at D cl q H := by
  constructor
  · intro h q hq
    obtain ⟨k, hk⟩ := List.getElem?_of_mem hq
    exact h k q hk
  · intro h k q hk
    exact h q (List.mem_of_getElem? hk)
theorem wo_P_perm {D : va_G} {cl : List vw_C} {ws ws' : va_W} {H : Heap} (hp : ws.Perm ws') (h : va_P D cl ws H) : va_P D cl ws' H :=
  wo_P_mem.mpr fun q hq => wo_P_mem.mp h q (hp.mem_iff.mpr hq)
theorem wo_D_iff {A : Nat → Prop} {ws : va_W} : va_D A ws ↔ (ws.map Prod.fst).Nodup ∧ ∀ q ∈ ws, A q.1 := by
  constructor
  · rintro ⟨h1, h2⟩
    refine ⟨?_, fun q hq => ?_⟩
    · rw [List.Nodup, List.pairwise_iff_getElem]
      intro i j hi hj hij he
      rw [List.getElem_map, List.getElem_map] at he
      rw [List.length_map] at hi hj
      have := h1 i j _ _ (List.getElem?_eq_getElem hi) (List.getElem?_eq_getElem hj) he
      omega
    · obtain ⟨k, hk⟩ := List.getElem?_of_mem hq
      exact h2 k q hk
  · rintro ⟨h1, h2⟩
    refine ⟨fun i j p q hi hj he => ?_, fun k q hk => h2 q (List.mem_of_getElem? hk)⟩
    rw [List.Nodup, List.pairwise_iff_getElem] at h1
    obtain ⟨hil, hi⟩ := List.getElem?_eq_some_iff.mp hi
    obtain ⟨hjl, hj⟩ := List.getElem?_eq_some_iff.mp hj
    have hil' : i < (ws.map Prod.fst).length := by rw [List.length_map]; exact hil
    have hjl' : j < (ws.map Prod.fst).length := by rw [List.length_map]; exact hjl
    have e : (ws.map Prod.fst)[i] = (ws.map Prod.fst)[j] := by
      rw [List.getElem_map, List.getElem_map, hi, hj]
      exact he
    rcases Nat.lt_trichotomy i j with q' | q' | q'
    · exact absurd e (h1 i j hil' hjl' q')
    · exact q'
    · exact absurd e.symm (h1 j i hjl' hil' q')
theorem wo_D_perm {A : Nat → Prop} {ws ws' : va_W} (hp : ws.Perm ws') (h : va_D A ws) : va_D A ws' := by
  obtain ⟨h1, h2⟩ := wo_D_iff.mp h
  exact wo_D_iff.mpr ⟨(hp.map Prod.fst).nodup_iff.mp h1, fun q hq => h2 q (hp.mem_iff.mpr hq)⟩
theorem wo_D_left {A : Nat → Prop} {a b : va_W} (h : va_D A (a ++ b)) : va_D A a := by
  obtain ⟨h1, h2⟩ := wo_D_iff.mp h
  rw [List.map_append] at h1
  exact wo_D_iff.mpr ⟨(List.nodup_append.mp h1).1, fun q hq => h2 q (List.mem_append_left _ hq)⟩
theorem wo_D_addr {A : Nat → Prop} {a b : va_W} (h : va_D A a) (he : b.map Prod.fst = a.map Prod.fst) : va_D A b := by
  obtain ⟨h1, h2⟩ := wo_D_iff.mp h
  refine wo_D_iff.mpr ⟨by rw [he]; exact h1, fun q hq => ?_⟩
  have : q.1 ∈ a.map Prod.fst := by rw [← he]; exact List.mem_map_of_mem hq
  obtain ⟨r, hr, e⟩ := List.mem_map.mp this
  rw [← e]; exact h2 r hr
theorem wo_map_range (a b : va_W) : (List.range a.length).map (fun i => (a ++ b)[i]?) = a.map some := by
  apply List.ext_getElem?
  intro i
  rw [List.getElem?_map, List.getElem?_map]
  rcases Nat.lt_or_ge i a.length with q | q
  · rw [List.getElem?_range q, List.getElem?_eq_getElem q]
    show some (a ++ b)[i]? = _
    rw [List.getElem?_append_left q, List.getElem?_eq_getElem q]; rfl
  · rw [List.getElem?_eq_none (by rw [List.length_range]; exact q), List.getElem?_eq_none q]; rfl
theorem wo_map_range2 (a b : va_W) : ((List.range b.length).map (fun i => a.length + i)).map (fun i => (a ++ b)[i]?) = b.map some := by
  apply List.ext_getElem?
  intro i
  rw [List.getElem?_map, List.getElem?_map, List.getElem?_map]
  rcases Nat.lt_or_ge i b.length with q | q
  · rw [List.getElem?_range q, List.getElem?_eq_getElem q]
    show some (a ++ b)[a.length + i]? = _
    rw [List.getElem?_append_right (Nat.le_add_right _ _), Nat.add_sub_cancel_left, List.getElem?_eq_getElem q]; rfl
  · rw [List.getElem?_eq_none (by rw [List.length_range]; exact q), List.getElem?_eq_none q]; rfl
theorem wo_free {A : Nat → Prop} {ws wc wr : va_W} {H0 H : Heap} {locs : List Loc} (hD : va_D A ws) (hS : va_S A H0 H locs) (hA : ∀ q, H0.size ≤ q → A q) (hcut : ws.Perm (wc ++ wr)) : ∀ q, va_A wc H.size q → A q :=
  va_free (wo_D_perm hcut hD) hS hA (List.range wc.length) (wo_map_range wc wr)
theorem wo_join {A : Nat → Prop} {D : va_G} {cl : List vw_C} {ws wc wr w1 wn : va_W} {H H1 : Heap} (hP : va_P D cl ws H) (hD : va_D A ws) (hcut : ws.Perm (wc ++ wr)) (hback : (wr ++ w1).Perm wn)
    (hk : ∀ q : Nat, q < H.size → ¬ va_A wc H.size q → H1[q]? = H[q]?) (hF : ∀ q, va_A wc H.size q → A q) (hP1 : va_P D cl w1 H1) (hD1 : va_D (va_A wc H.size) w1) : va_P D cl wn H1 ∧ va_D A wn := by
  have hn : va_nd ((List.range wr.length).map (fun i => wc.length + i)) = true := by
    have h0 : ∀ (l : List Nat), l.Nodup → va_nd l = true := by
      intro l hl
      induction l with
      | nil => rfl
      | cons a t ih =>
        obtain ⟨h1, h2⟩ := List.nodup_cons.mp hl
        simp [va_nd, h1, ih h2]
    exact h0 _ (List.Pairwise.map (fun i => wc.length + i) (fun i j h => by intro e; exact h (Nat.add_left_cancel e)) List.nodup_range)
  obtain ⟨h1, h2⟩ := va_join (wo_P_perm hcut hP) (wo_D_perm hcut hD) (List.range wc.length) ((List.range wr.length).map (fun i => wc.length + i)) (wo_map_range wc wr) (wo_map_range2 wc wr) hn
    (fun i hi hi2 => by
      obtain ⟨j, -, rfl⟩ := List.mem_map.mp hi
      have := List.mem_range.mp hi2
      omega) hk hF hP1 hD1
  exact ⟨wo_P_perm hback h1, wo_D_perm hback h2⟩
/-! a world's array says no more than its places do -/
theorem wo_row {D : va_G} {cl : List vw_C} {a n : Nat} {c : ClassId} {f f' : Nat → Int32} {H : Heap} (h : ∀ j, j < n → f j = f' j) (hq : va_at D cl (a, .inl (c, n, .inl f)) H) : va_at D cl (a, .inl (c, n, .inl f')) H := by
  have e : vp_cell c (n, .inl f) = vp_cell c (n, .inl f') := by
    show arrV c n (fun j => Value.int (f j)) = arrV c n (fun j => Value.int (f' j))
    unfold arrV
    congr 1
    exact congrArg Array.ofFn (funext fun j => congrArg Value.int (h j.val j.isLt))
  show H[a]? = some (vp_cell c (n, .inl f'))
  rw [← e]; exact hq

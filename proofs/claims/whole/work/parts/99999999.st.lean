/-! the state where the law begins -/

def gv1 : Cond := Jvm.Cond.and given_1 narrow_1
def tmS (k : Nat) : Term := .string "AlarmBoxes$CardReader" k
def tmV (k : Nat) : Term := .field (tmS k) "java/lang/String" "value" "[B"
def txC (q : Nat × List Int) : List Cond := [.exactly (tmS q.1) "java/lang/String", .eq (.field (tmS q.1) "java/lang/String" "coder" "B") (.int (c32 0)), .arrayOf (tmV q.1) .byte, .eq (.length (tmV q.1)) (.int (Int32.ofNat q.2.length))] ++ (List.range q.2.length).map fun j => .eq (.elem (tmV q.1) (.int (Int32.ofNat j))) (.int (c32 (q.2.getD j 0)))
theorem txC_in : (txE.all fun q => (txC q).all fun w => decide (w ∈ flatC gv1)) = true := by decide +kernel
theorem strs_in : ∀ q ∈ STRS, Cond.stringRef q.1 q.2.1 q.2.2.1 ∈ lw_tbl ∧ q.1 = "AlarmBoxes$CardReader" ∧ q.2.1 = (txE.getD (q.2.2.2 - 1) (0, [])).1 ∧ 1 ≤ q.2.2.2 ∧ q.2.2.2 ≤ 15 := by decide +kernel
theorem inst_in : ∀ ci : Nat, ci < 14 → Cond.instantiable (cR ci) (cN ci) ∈ lw_tbl := by decide +kernel
theorem st_out {s : State} : ∀ a : Nat, a < s.heap.size → ¬ (fun q : Nat => s.heap.size ≤ q) a := fun _ h => Nat.not_le.mpr h
theorem st_text {b : Nat} {s : State} (hs : ∀ w ∈ flatC gv1, w.before #[Value.ref b] s = true) (i : Nat) (hi : i < 15) : ∃ p : Nat × Nat, (tmS (txE.getD i (0, [])).1).eval #[Value.ref b] s none [] s = some (.ref p.1) ∧ va_O "java/lang/String" p.1 (fun q => s.heap.size ≤ q) s s.heap ∧ va_OF "java/lang/String" "coder" "B" (.int (c32 0)) p.1 (fun q => s.heap.size ≤ q) s s.heap ∧ va_OF "java/lang/String" "value" "[B" (.ref p.2) p.1 (fun q => s.heap.size ≤ q) s s.heap ∧ va_T .byte p.2 (txB i).length (fun j => .int (c32 ((txB i).getD j 0))) (fun q => s.heap.size ≤ q) s s.heap := by
  have hlt : i < txE.length := hi
  have hm : txE.getD i (0, []) ∈ txE := by
    rw [List.getD_eq_getElem?_getD, List.getElem?_eq_getElem hlt]
    exact List.getElem_mem hlt
  have hl := txB_len i
  unfold txB at hl ⊢
  generalize txE.getD i (0, []) = q at hm hl ⊢
  have hw : ∀ w ∈ txC q, w.before #[Value.ref b] s = true := fun w h => hs w (of_decide_eq_true (List.all_eq_true.mp (List.all_eq_true.mp txC_in q hm) w h))
  have e1 : (Cond.exactly (tmS q.1) "java/lang/String").before #[Value.ref b] s = true := hw _ (List.mem_append_left _ List.mem_cons_self)
  have e2 : (Cond.eq (.field (tmS q.1) "java/lang/String" "coder" "B") (.int (c32 0))).before #[Value.ref b] s = true := hw _ (List.mem_append_left _ (List.mem_cons_of_mem _ List.mem_cons_self))
  have e3 : (Cond.arrayOf (tmV q.1) .byte).before #[Value.ref b] s = true := hw _ (List.mem_append_left _ (List.mem_cons_of_mem _ (List.mem_cons_of_mem _ List.mem_cons_self)))
  have e4 : (Cond.eq (.length (tmV q.1)) (.int (Int32.ofNat q.2.length))).before #[Value.ref b] s = true := hw _ (List.mem_append_left _ (List.mem_cons_of_mem _ (List.mem_cons_of_mem _ (List.mem_cons_of_mem _ List.mem_cons_self))))
  have el : ∀ j : Nat, j < q.2.length → (Cond.eq (.elem (tmV q.1) (.int (Int32.ofNat j))) (.int (c32 (q.2.getD j 0)))).before #[Value.ref b] s = true := fun j hj => hw _ (List.mem_append_right _ (List.mem_map.mpr ⟨j, List.mem_range.mpr hj, rfl⟩))
  obtain ⟨a, c, cell, k, t1, -⟩ := Cond.exactly_spec (args := #[Value.ref b]) (first := s) (o := none) (s := s) (idx := []) e1
  obtain ⟨t, t2, t3⟩ := va_Tof (N := q.2.length) (f := fun j => .int (c32 (q.2.getD j 0))) (A := fun q => s.heap.size ≤ q) (by omega) e3 (va_eqt e4) (fun j hj => va_eqt (el j hj)) st_out
  exact ⟨(a, t), t1, va_Oof e1 t1 st_out, vk_OFof t1 (va_eqt e2) st_out, vk_OFof t1 t2 st_out, t3⟩
theorem EX_of {args : Array Value} {s : State} (h : ∀ w ∈ lw_tbl, w.before args s = true) : EX s := by
  intro w hw
  have h1 := h w (List.mem_filter.mp hw).1
  have h2 := (List.mem_filter.mp hw).2
  cases w <;> first | (cases h2; done) | exact h1
theorem ar_C {args : Array Value} {s : State} {ty : FieldType} (h : (Cond.arrayClass ty).before args s = true) : ∃ cA : ClassId, ArrOfT s cA ty ∧ s.vm.findClass ("[" ++ ty.toString) = some cA := by
  obtain ⟨c, k, comp, h1, h2, h3⟩ := Cond.arrayClass_spec (args := args) (first := s) (o := none) (s := s) (idx := []) h
  exact ⟨c, fun N z => ⟨(fun k h => by cases h), k, h2, comp, h3⟩, h1⟩
theorem ar_O {args : Array Value} {s : State} {C : String} (h : (Cond.arrayOver (.object C)).before args s = true) : ∃ cA : ClassId, ArrOfT s cA (.object C) ∧ va_RA s cA (.object C) := by
  obtain ⟨comp, c, k, h1, -, h3, h4, h5⟩ := Cond.arrayOver_spec (args := args) (first := s) (o := none) (s := s) (idx := []) h
  exact ⟨c, fun N z => ⟨(fun k h => by cases h), k, h3, comp, h4⟩, ⟨k, comp, h3, h4, h1, h5⟩⟩
theorem ar_A {args : Array Value} {s : State} (h : (Cond.arrayOver (.array .long)).before args s = true) : ∃ cA : ClassId, ArrOfT s cA (.array .long) ∧ va_RA s cA (.array .long) := by
  obtain ⟨comp, c, k, h1, -, h3, h4, h5⟩ := arrayOverA_spec (args := args) (first := s) (o := none) (s := s) (idx := []) h
  exact ⟨c, fun N z => ⟨(fun k h => by cases h), k, h3, comp, h4⟩, h5⟩
theorem room_mono {s : State} {pl : Platform} {R R' : Room} (hf : R'.frames ≤ R.frames) (hl : R'.locals ≤ R.locals) (hc : R'.cells ≤ R.cells) (hs : R'.slots ≤ R.slots) (h : s.hasRoom pl R = true) : s.hasRoom pl R' = true := by
  simp only [State.hasRoom, Bool.and_eq_true, decide_eq_true_eq] at h ⊢
  obtain ⟨⟨⟨⟨h1, h2, h3, h4, h5, h6⟩, h7⟩, h8⟩, h9⟩ := h
  exact ⟨⟨⟨⟨by omega, by omega, by omega, by omega, by omega, h6⟩, by omega⟩, by omega⟩, h9⟩
theorem flags_off {l : Launch} (h : l.flags = flags0) : l.stackTraces = false := by
  show (!l.flags.contains Jvm.noTraceFlag) = false
  rw [h]
  decide +kernel
/-- where what lay there before lies -/
def stX (fa : Nat → Nat × Nat) (mi z b fx : Nat) : Nat → Nat := fun i => if i < 1 then b else if i < 16 then (fa (i - 1)).1 else if i = 16 then mi else if i < 32 then (fa (i - 17)).2 else if i = 32 then z else if i = 33 then b else fx
theorem stX_1 {fa : Nat → Nat × Nat} {mi z b fx i : Nat} (h : i < 15) : stX fa mi z b fx (i + 1) = (fa i).1 := by
  unfold stX
  rw [if_neg (by omega), if_pos (by omega)]
  rfl
theorem stX_2 {fa : Nat → Nat × Nat} {mi z b fx i : Nat} (h : i < 15) : stX fa mi z b fx (i + 17) = (fa i).2 := by
  unfold stX
  rw [if_neg (by omega), if_neg (by omega), if_neg (by omega), if_pos (by omega)]
  rfl

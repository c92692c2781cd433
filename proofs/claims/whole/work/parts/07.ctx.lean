/-! a method's run, over the picture -/
/-- String constants of the code: class, entry, text, place -/
def STRS : List (String × Nat × String × Nat) := [("AlarmBoxes$CardReader", 54, "send", 1), ("AlarmBoxes$CardReader", 67, "engines", 2), ("AlarmBoxes$CardReader", 72, "ladders", 3), ("AlarmBoxes$CardReader", 74, "when", 4), ("AlarmBoxes$CardReader", 93, "and", 5), ("AlarmBoxes$CardReader", 95, "or", 6), ("AlarmBoxes$CardReader", 107, "not", 7), ("AlarmBoxes$CardReader", 117, "box", 8), ("AlarmBoxes$CardReader", 119, "ward", 9), ("AlarmBoxes$CardReader", 121, "loop", 10), ("AlarmBoxes$CardReader", 123, "hour", 11), ("AlarmBoxes$CardReader", 125, "call", 12), ("AlarmBoxes$CardReader", 127, "out", 13), ("AlarmBoxes$CardReader", 129, "false", 14), ("AlarmBoxes$CardReader", 164, "()<=+-;", 15)]
def EX (U : State) : Prop := ∀ w ∈ XW, w.before #[] U = true
def SX (g : GG) (U : State) : Prop := (∀ (own : String) (k : Nat) (tx : String) (i : Nat), (own, k, tx, i) ∈ STRS → vk_R own k tx (gX g i) U) ∧ va_Mi "[Ljava/lang/Object;" (gX g 16) U
theorem EX.warm {s U : State} (hW : s.WarmedH U.vm) (h : EX s) : EX U := by
  intro w hw
  have h1 := h w hw
  have h2 := (List.mem_filter.mp hw).2
  cases w <;> first | cases h2; done | exact va_Nw.warmC hW h1 | exact va_Nw.warmD hW h1 | exact va_Nw.warmM hW h1 | skip
  case arrayOver ty =>
    cases ty <;> first | cases h2; done | exact va_AO.moved hW.alike h1 | exact over_moved hW.alike h1
theorem EX.same {u U : State} (hv : u.vm = U.vm) (h : EX u) : EX U := by
  intro w hw
  have h1 := h w hw
  have h2 := (List.mem_filter.mp hw).2
  cases w <;> first | cases h2; done | exact va_Nw.same rfl hv h1 | skip
  case arrayOver ty =>
    cases ty <;> first | cases h2; done | exact va_AO.moved (by rw [hv]; exact Vm.Alike.refl _) h1 | exact over_moved (by rw [hv]; exact Vm.Alike.refl _) h1
theorem SX.warm {g : GG} {s U : State} (hW : s.WarmedH U.vm) (h : SX g s) : SX g U := ⟨fun own k tx i hi => (h.1 own k tx i hi).warm hW, h.2.moved hW.alike⟩
theorem SX.same {g : GG} {u U : State} (hv : u.vm = U.vm) (h : SX g u) : SX g U := ⟨fun own k tx i hi => (h.1 own k tx i hi).same hv.symm, h.2.moved (by rw [hv]; exact Vm.Alike.refl _)⟩
/-- what a method's start must hold, for a memory σ -/
def InS (g : GG) (σ : Hp) (U : State) : Prop := HB g U σ U.heap ∧ va_K (gD g) CLS (ATY g) U ∧ EX U ∧ SX g U ∧ gB g ≤ U.heap.size ∧ PM g
def OutS (g : GG) (Q : Option AV → Hp → Prop) : Array Value → State → Outcome → State → Prop := fun _ st o t =>
  (∃ (r : Option AV) (σ' : Hp), o = .returned (r.map (cv g)) ∧ Q r σ' ∧ HB g t σ' t.heap) ∧ va_F (AF g) st t
def rmOf (lv mc ms : Nat) : Room := { frames := lv, cells := mc, slots := ms, locals := 128 * lv }
def wsOf (y : MethodName) (cc : ByteArray) (nL : Nat) (ret : Option FieldType) : List Cond := .code y cc nL ret :: TBL
/-- a specification: of arguments, memory, and what shall hold of answer and memory behind it -/
abbrev Sp : Type := List AV → Hp → (Option AV → Hp → Prop) → Prop
/-- THE CONTRACT: whoever holds 'sp args σ Q' may run the method and holds Q behind it -/
def Ct (y : MethodName) (cc : ByteArray) (nL : Nat) (ret : Option FieldType) (lv mc ms : Nat) (sp : Sp) : Prop :=
  ∀ (l : Launch) (g : GG) (av : List AV) (σ : Hp) (Q : Option AV → Hp → Prop), sp av σ Q →
    Met l y (wsOf y cc nL ret) (rmOf lv mc ms) (va_Pc (av.map (cv g)) (InS g σ)) (OutS g Q) mc ms (AF g)
/-- the fixed things of one run of a method -/
def MC (g : GG) (p : Program) (s : State) (m : MethodId) (args : Array Value) (meth : Method) (cd : Code) (own : String) (cc : ByteArray) (nL : Nat) (ret : Option FieldType) : Prop :=
  p.tables.exec = Jvm.exec ∧ cd.code = cc ∧ cd.maxLocals = nL ∧ meth.sig.returnType = ret ∧ meth.locks = false ∧ s.vm.findClass own = some m.cls ∧ (∀ w ∈ TBL, w.before args s = true) ∧
  va_K (gD g) CLS (ATY g) s ∧ EX s ∧ SX g s ∧ gB g ≤ s.heap.size ∧ PM g
/-- locals: None is what nobody may read -/
def LH (g : GG) (nL : Nat) (ls : List (Option AV)) (la : Array Slot) : Prop := la.size = nL ∧ ls.length = nL ∧ lv_wf la ∧ ∀ (i : Nat) (v : AV), ls[i]? = some (some v) → la[i]? = some (.val (cv g v))
section CTX
variable (g : GG) (p : Program) (l : Launch) (e : Env) (s : State) (m : MethodId) (args : Array Value) (below : List Frame) (meth : Method) (cd : Code) (nL lv mc ms : Nat) (Q : State → Prop)
/-- the machine, at pc with these locals, stack and memory, comes to Q -/
def WW (pc : Nat) (ls : List (Option AV)) (st : List AV) (σ : Hp) (k : Nat × Nat) : Prop :=
  ∀ (H : Heap) (locs : List Loc) (la : Array Slot), HB g s σ H → va_S (AF g) s.heap H locs → LH g nL ls la → k.1 ≤ mc → k.2 ≤ ms →
    W p l e (rmOf lv mc ms) s m args below meth cd H locs k.1 k.2 Q (F0 m pc la (st.map (cv g)))
end CTX
theorem cv_cat (g : GG) (v : AV) : (cv g v).category = match v with | .inr (.inl _) => 2 | _ => 1 := by
  rcases v with x | x | r
  · rfl
  · rfl
  · show (va_rf (rv g r)).category = 1
    cases rv g r <;> rfl
/-! locals -/
def stL (ls : List (Option AV)) (i : Nat) (v : AV) : List (Option AV) := ((match i with
  | 0 => ls
  | j + 1 => match ls.getD j none with
    | some (.inr (.inl _)) => ls.set j none
    | _ => ls).set i (some v))
def stL2 (ls : List (Option AV)) (i : Nat) (v : AV) : List (Option AV) := (stL ls i v).set (i + 1) none
def asl (g : GG) (ls : List (Option AV)) : List (Nat × Value) := (List.range ls.length).filterMap (fun i => match ls[i]? with
  | some (some v) => some (i, cv g v)
  | _ => none)
theorem asl_in {g : GG} {ls : List (Option AV)} {i : Nat} {x : Value} : (i, x) ∈ asl g ls ↔ ∃ v, ls[i]? = some (some v) ∧ x = cv g v := by
  unfold asl
  rw [List.mem_filterMap]
  constructor
  · rintro ⟨j, -, h⟩
    cases hj : ls[j]? with
    | none => rw [hj] at h; cases h
    | some o =>
      cases o with
      | none => rw [hj] at h; cases h
      | some v => rw [hj] at h; cases h; exact ⟨v, hj, rfl⟩
  · rintro ⟨v, h1, rfl⟩
    exact ⟨i, List.mem_range.mpr (List.getElem?_eq_some_iff.mp h1).1, by rw [h1]⟩
theorem LH.has {g : GG} {nL : Nat} {ls : List (Option AV)} {la : Array Slot} (h : LH g nL ls la) : lv_has la nL (asl g ls) :=
  ⟨h.1, h.2.2.1, fun q hq => by obtain ⟨v, h1, h2⟩ := asl_in.mp (show (q.1, q.2) ∈ asl g ls from hq); rw [h2]; exact h.2.2.2 _ _ h1⟩
theorem stL_len (ls : List (Option AV)) (i : Nat) (v : AV) : (stL ls i v).length = ls.length := by
  unfold stL
  rw [List.length_set]
  cases i with
  | zero => rfl
  | succ j => dsimp only; split <;> simp
theorem stL_at {ls : List (Option AV)} {i j : Nat} {v w : AV} (h : (stL ls i v)[j]? = some (some w)) : (j = i ∧ w = v) ∨ (j ≠ i ∧ ls[j]? = some (some w) ∧ ¬ (j + 1 = i ∧ ∃ b, w = .inr (.inl b))) := by
  unfold stL at h
  by_cases e : j = i
  · subst e
    rw [List.getElem?_set_self'] at h
    cases hq : (match j with | 0 => ls | k + 1 => match ls.getD k none with | some (.inr (.inl _)) => ls.set k none | _ => ls)[j]? with
    | none => rw [hq] at h; cases h
    | some o => rw [hq] at h; cases h; exact Or.inl ⟨rfl, rfl⟩
  · rw [List.getElem?_set_ne (Ne.symm e)] at h
    refine Or.inr ⟨e, ?_⟩
    cases i with
    | zero => exact ⟨h, by omega⟩
    | succ k =>
      dsimp only at h
      split at h
      · rename_i b hb
        by_cases e2 : j = k
        · subst e2
          rw [List.getElem?_set_self'] at h
          cases hq : ls[j]? with
          | none => rw [hq] at h; cases h
          | some o => rw [hq] at h; cases h
        · rw [List.getElem?_set_ne (Ne.symm e2)] at h
          exact ⟨h, by omega⟩
      · rename_i hb
        refine ⟨h, ?_⟩
        rintro ⟨e2, b, rfl⟩
        have e3 : j = k := by omega
        subst e3
        exact hb b (by rw [List.getD_eq_getElem?_getD, h]; rfl)
theorem LH.st1 {g : GG} {nL : Nat} {ls : List (Option AV)} {la la' : Array Slot} {i : Nat} {v : AV} (h : LH g nL ls la)
    (h' : lv_has la' nL ((i, cv g v) :: (asl g ls).filter (fun q => !(q.1 == i) && !(q.1 + 1 == i && q.2.category == 2)))) : LH g nL (stL ls i v) la' := by
  refine ⟨h'.1, (stL_len _ _ _).trans h.2.1, h'.2.1, fun j w hj => ?_⟩
  rcases stL_at hj with ⟨rfl, rfl⟩ | ⟨n1, n2, n3⟩
  · exact h'.2.2 (j, cv g w) List.mem_cons_self
  · refine h'.2.2 (j, cv g w) (List.mem_cons_of_mem _ (List.mem_filter.mpr ⟨asl_in.mpr ⟨w, n2, rfl⟩, ?_⟩))
    simp only [Bool.and_eq_true, Bool.not_eq_true', beq_eq_false_iff_ne, ne_eq, Bool.and_eq_false_iff]
    refine ⟨n1, ?_⟩
    by_cases e : j + 1 = i
    · right
      intro hc
      have hc : (cv g w).category = 2 := hc
      rw [cv_cat] at hc
      rcases w with x | x | x
      · cases hc
      · exact n3 ⟨e, x, rfl⟩
      · cases hc
    · left; exact e
theorem LH.st2 {g : GG} {nL : Nat} {ls : List (Option AV)} {la la' : Array Slot} {i : Nat} {v : AV} (h : LH g nL ls la)
    (h' : lv_has la' nL ((i, cv g v) :: (asl g ls).filter (fun q => !(q.1 == i) && (!(q.1 == i + 1) && !(q.1 + 1 == i && q.2.category == 2))))) : LH g nL (stL2 ls i v) la' := by
  refine ⟨h'.1, by unfold stL2; rw [List.length_set]; exact (stL_len _ _ _).trans h.2.1, h'.2.1, fun j w hj => ?_⟩
  unfold stL2 at hj
  by_cases e1 : j = i + 1
  · subst e1
    rw [List.getElem?_set_self'] at hj
    cases hq : (stL ls i v)[i + 1]? with
    | none => rw [hq] at hj; cases hj
    | some o => rw [hq] at hj; cases hj
  rw [List.getElem?_set_ne (Ne.symm e1)] at hj
  rcases stL_at hj with ⟨rfl, rfl⟩ | ⟨n1, n2, n3⟩
  · exact h'.2.2 (j, cv g w) List.mem_cons_self
  · refine h'.2.2 (j, cv g w) (List.mem_cons_of_mem _ (List.mem_filter.mpr ⟨asl_in.mpr ⟨w, n2, rfl⟩, ?_⟩))
    simp only [Bool.and_eq_true, Bool.not_eq_true', beq_eq_false_iff_ne, ne_eq, Bool.and_eq_false_iff]
    refine ⟨n1, e1, ?_⟩
    by_cases e : j + 1 = i
    · right
      intro hc
      have hc : (cv g w).category = 2 := hc
      rw [cv_cat] at hc
      rcases w with x | x | x
      · cases hc
      · exact n3 ⟨e, x, rfl⟩
      · cases hc
    · left; exact e

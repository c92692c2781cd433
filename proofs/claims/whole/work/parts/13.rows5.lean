/-! stores into arrays of references; ends; calls -/
def okr (ret : Option FieldType) (v : Option AV) : Prop := match ret, v with
  | none, none => True
  | some .int, some (.inl _) => True
  | some .boolean, some (.inl x) => x = 0 ∨ x = 1
  | some .char, some (.inl x) => 0 ≤ x ∧ x < 65536
  | some .byte, some (.inl x) => x = 0
  | some .long, some (.inr (.inl _)) => True
  | some (.object _), some (.inr (.inr _)) => True
  | some (.array _), some (.inr (.inr _)) => True
  | _, _ => False
section RW5
variable {g : GG} {p : Program} {l : Launch} {e : Env} {s : State} {m : MethodId} {args : Array Value} {below : List Frame} {meth : Method} {cd : Code} {nL lv mc ms : Nat} {Q : State → Prop}
variable {own : String} {cc : ByteArray} {ret : Option FieldType} {pc : Nat} {ls : List (Option AV)} {st : List AV} {σ : Hp} {k : Nat × Nat}
theorem w_aast (C : MC g p s m args meth cd own cc nL ret) {r i v : Int} {κ ci : Nat} {E : String} (hκ : (κ = 105 ∧ E = "java/lang/Object") ∨ (κ = 106 ∧ E = "AlarmBoxes$Loop")) (hk : kd σ r = κ) (hrp : 0 < r) (hci : ci < 14) (hv : kd σ v = ci + 1) (hca : cR ci = E ∨ Cond.castable (cR ci) E ∈ XW) (hi : 0 ≤ i ∧ i < ln σ r) (hd : decode cc pc = .ok (.aastore, 1)) (kk : WW g p l e s m args below meth cd nL lv mc ms Q (pc + 1) ls st (qR σ r i v) k) : WW g p l e s m args below meth cd nL lv mc ms Q pc ls (vr v :: vi i :: vr r :: st) σ k := fun H locs la h1 h2 h3 h4 h5 => by
  have hlen := h1.2.1.2.2.1 r
  obtain ⟨-, hrn, -⟩ := h1.2.1.2.1 r (by omega)
  have hv0 := (h1.2.1.2.1 v (by omega)).1
  show W p l e (rmOf lv mc ms) s m args below meth cd H locs k.1 k.2 Q (F0 m pc la (va_rf (rv g v) :: .int (c32 i) :: va_rf (rv g r) :: st.map (cv g)))
  rw [rv_ne (r := r) (by omega), rv_ne hv0]
  have hat := h1.1.arr hk (by omega) hrp
  rw [aval_ref (by omega)] at hat
  have hin : vp_in (c32 i) (ln σ r).toNat := c32_in hi.1 (by omega) (by omega)
  have hcl : (c32 i).toNatClampNeg = i.toNat := c32_clamp hi.1 (by omega)
  have hneg : ¬ c32 i < 0 := by rw [z_lt, wI_id (by omega) (by omega)]; show ¬ i < wI 0; unfold wI; omega
  obtain ⟨cellV, g1, g2, g3⟩ := recv_obj C.hK h1 hci hv
  obtain ⟨kV, hkV, -⟩ := Vm.findClass_spec g3
  obtain ⟨kA, comp, k1, k2, k3⟩ : ∃ (kA : Class) (comp : ClassId), s.vm.classes[gA g κ]? = some kA ∧ kA.kind = .array comp (.object E) ∧ s.vm.findClass E = some comp := by
    rcases hκ with ⟨rfl, rfl⟩ | ⟨rfl, rfl⟩
    · obtain ⟨kA, comp, a1, a2, a3, -⟩ := (C.hK.2 4 _ rfl).2
      exact ⟨kA, comp, a1, a2, a3⟩
    · obtain ⟨kA, comp, a1, a2, a3, -⟩ := (C.hK.2 5 _ rfl).2
      exact ⟨kA, comp, a1, a2, a3⟩
  obtain ⟨kE, hkE, -⟩ := Vm.findClass_spec k3
  have hasg : s.vm.assignable cellV.cls comp = true := by
    rcases hca with h | h
    · rw [h] at g3
      exact vb_asgS comp cellV.cls k3 g3
    · exact vb_asgC (C.hE _ h) comp cellV.cls k3 g3
  refine W.aast C.hx C.hb hat (fun q h => by cases h) (fun h => by cases h) k1 k2 rfl hkE ⟨hneg, by show _ < (arrV _ _ _).slots.size; rw [arrV_size, hcl]; exact (show i.toNat < (ln σ r).toNat by omega)⟩ g1 (fun q h => by rw [h] at g2; cases g2) hkV hasg rfl rfl hd fun H1 a1 a2 a3 => ?_
  have hA : AF g (ad g r) := by rw [ad_pos g hrp]; exact Nat.le_add_right _ _
  have hS2 := h2.put (k := (c32 i).toNatClampNeg) a2 a3 hA
  have hne : ∀ q : Int, q ≠ r → aR (qR σ r i v) q = aR σ q := fun q hq => ua_ne _ _ _ hq
  refine kk H1 _ la ⟨h1.1.put (σ' := qR σ r i v) h1.2.1 C.hX hrp rfl (fun q hq => cel_q_ne rfl rfl rfl rfl rfl rfl rfl (hne q hq)) ?_ a3, h1.2.1.q (r := r) rfl rfl rfl rfl rfl rfl (fun q hq => ⟨rfl, rfl, hne q hq⟩) hrn, by rw [a2]; exact h1.2.2.1, ?_⟩ hS2 h3 h4 h5
  · rw [cel_arr (σ := qR σ r i v) (κ := κ) hk (by omega), aval_ref (by omega)]
    show H1[ad g r]? = some (vp_cell _ _)
    rw [a1]
    show some ((arrV _ _ _).setSlot _ _) = _
    rw [arrV_store]
    show some (arrV (gA g κ) (ln σ r).toNat (updV _ _ _)) = some (arrV (gA g κ) (ln σ r).toNat (fun j => va_rf (rv g (aR (qR σ r i v) r j))))
    congr 2
    funext q
    rw [hcl]
    unfold updV
    by_cases hq : q = i.toNat
    · rw [if_pos hq]
      have hq2 : (q : Int) = i := by omega
      rw [hq2, show aR (qR σ r i v) r i = v from if_pos ⟨rfl, rfl⟩, rv_ne hv0]
      rfl
    · rw [if_neg hq, show aR (qR σ r i v) r q = aR σ r q from if_neg (by omega)]
  · refine (h1.2.2.2.q (σ' := qR σ r i v) (r := r) rfl rfl rfl rfl (fun _ _ => rfl) (by omega)).kept fun q hq hA2 => a3 q ?_
    intro e9
    exact hA2 (by rw [e9]; exact hA)
theorem out_ok {QQ : Option AV → Hp → Prop} {H : Heap} {locs : List Loc} (h1 : HB g s σ H) (h2 : va_S (AF g) s.heap H locs) {r : Option AV} (hq : QQ r σ) {t : State} (ht : t.heap = H) (hW : s.WarmedH t.vm) : OutS g QQ args s (.returned (r.map (cv g))) t :=
  ⟨⟨r, σ, rfl, hq, by rw [ht]; exact h1.moved hW.alike⟩, h2.F ht⟩
theorem w_ireturn (C : MC g p s m args meth cd own cc nL ret) {QQ : Option AV → Hp → Prop} {x : Int} (hr : okr ret (some (vi x))) (hq : QQ (some (vi x)) σ) (hd : decode cc pc = .ok (.ireturn, 1)) : WW g p l e s m args below meth cd nL lv mc ms (MQ below (OutS g QQ) args s mc ms (AF g)) pc ls [vi x] σ k := fun H locs la h1 h2 h3 h4 h5 => by
  refine W.widen h4 h5 ?_
  have hout : ∀ t : State, t.heap = H → s.WarmedH t.vm → OutS g QQ args s (.returned (some (.int (c32 x)))) t := fun t ht hW => out_ok (r := some (vi x)) h1 h2 hq ht hW
  rcases ret with _ | ty
  · exact absurd hr (by unfold okr; exact id)
  · cases ty <;> first | (exact absurd hr (by unfold okr; exact id)) | skip
    · have hr : x = 0 := hr
      subst hr
      exact W.zret C.hx C.hb C.hr (by decide) hout h2.2.2 hd C.hlk
    · exact W.zret C.hx C.hb C.hr (nar_c hr) hout h2.2.2 hd C.hlk
    · exact W.zret C.hx C.hb C.hr rfl hout h2.2.2 hd C.hlk
    · rcases (show x = 0 ∨ x = 1 from hr) with rfl | rfl
      · exact W.zret C.hx C.hb C.hr okb0.1 hout h2.2.2 hd C.hlk
      · exact W.zret C.hx C.hb C.hr okb1.1 hout h2.2.2 hd C.hlk
theorem w_lreturn (C : MC g p s m args meth cd own cc nL ret) {QQ : Option AV → Hp → Prop} {x : BitVec 64} (hr : okr ret (some (vl x))) (hq : QQ (some (vl x)) σ) (hd : decode cc pc = .ok (.lreturn, 1)) : WW g p l e s m args below meth cd nL lv mc ms (MQ below (OutS g QQ) args s mc ms (AF g)) pc ls [vl x] σ k := fun H locs la h1 h2 h3 h4 h5 => by
  refine W.widen h4 h5 ?_
  rcases ret with _ | ty
  · exact absurd hr (by unfold okr; exact id)
  · cases ty <;> first | (exact absurd hr (by unfold okr; exact id)) | skip
    exact W.lret C.hx C.hb C.hr (fun t ht hW => out_ok (r := some (vl x)) h1 h2 hq ht hW) h2.2.2 hd C.hlk
theorem w_return (C : MC g p s m args meth cd own cc nL ret) {QQ : Option AV → Hp → Prop} (hr : okr ret none) (hq : QQ none σ) (hd : decode cc pc = .ok (.return_, 1)) : WW g p l e s m args below meth cd nL lv mc ms (MQ below (OutS g QQ) args s mc ms (AF g)) pc ls [] σ k := fun H locs la h1 h2 h3 h4 h5 => by
  refine W.widen h4 h5 ?_
  rcases ret with _ | ty
  · exact W.vret C.hx C.hb C.hr (fun t ht hW => out_ok (r := none) h1 h2 hq ht hW) h2.2.2 hd C.hlk
  · cases ty <;> exact absurd hr (by unfold okr; exact id)
theorem w_areturn (C : MC g p s m args meth cd own cc nL ret) {QQ : Option AV → Hp → Prop} {x : Int} (hr : okr ret (some (vr x))) (hq : QQ (some (vr x)) σ) (hd : decode cc pc = .ok (.areturn, 1)) : WW g p l e s m args below meth cd nL lv mc ms (MQ below (OutS g QQ) args s mc ms (AF g)) pc ls [vr x] σ k := fun H locs la h1 h2 h3 h4 h5 => by
  refine W.widen h4 h5 ?_
  have hv : va_rf (rv g x) = .null ∨ ∃ a, va_rf (rv g x) = .ref a := by
    cases rv g x with
    | none => exact Or.inl rfl
    | some q => exact Or.inr ⟨q, rfl⟩
  rcases ret with _ | ty
  · exact absurd hr (by unfold okr; exact id)
  · cases ty <;> first | (exact absurd hr (by unfold okr; exact id)) | skip
    · exact W.aret C.hx C.hb C.hr (Or.inl ⟨_, rfl⟩) hv (fun t ht hW => out_ok (r := some (vr x)) h1 h2 hq ht hW) h2.2.2 hd C.hlk
    · exact W.aret C.hx C.hb C.hr (Or.inr ⟨_, rfl⟩) hv (fun t ht hW => out_ok (r := some (vr x)) h1 h2 hq ht hW) h2.2.2 hd C.hlk
end RW5
/-- slots of what lies below the arguments -/
def catS : List AV → Nat
  | [] => 0
  | .inr (.inl _) :: r => 2 + catS r
  | _ :: r => 1 + catS r
theorem catS_eq (g : GG) : ∀ st : List AV, ((st.map (cv g)).map fun v => v.category).sum = catS st
  | [] => rfl
  | .inl x :: r => by
    have := catS_eq g r
    simp only [List.map_cons, List.sum_cons, cv_cat, this]
    rfl
  | .inr (.inl x) :: r => by
    have := catS_eq g r
    simp only [List.map_cons, List.sum_cons, cv_cat, this]
    rfl
  | .inr (.inr x) :: r => by
    have := catS_eq g r
    simp only [List.map_cons, List.sum_cons, cv_cat, this]
    rfl
/-- one instruction of a class (a call mostly), by a specification -/
def Row (own : String) (i : Instr) (len argc a b lvc : Nat) (sp : Sp) : Prop :=
  ∀ (g : GG) (p : Program) (l : Launch) (e : Env) (s : State) (m : MethodId) (args : Array Value) (below : List Frame) (meth : Method) (cd : Code) (nL lv mc ms : Nat) (Q : State → Prop) (cc : ByteArray) (ret : Option FieldType) (pc : Nat) (ls : List (Option AV)) (av rest : List AV) (σ : Hp) (k : Nat × Nat) (Qf : Option AV → Hp → Prop),
    MC g p s m args meth cd own cc nL ret → av.length = argc → catS rest ≤ 8 → lvc < lv → k.1 + a ≤ mc → k.2 + b ≤ ms → decode cc pc = .ok (i, len) →
    sp av σ Qf → (∀ r σ', Qf r σ' → WW g p l e s m args below meth cd nL lv mc ms Q (pc + len) ls (r.toList ++ rest) σ' (k.1 + a, k.2 + b)) →
    WW g p l e s m args below meth cd nL lv mc ms Q pc ls (av.reverse ++ rest) σ k
theorem MC.ext {g : GG} {p : Program} {s : State} {m : MethodId} {args : Array Value} {meth : Method} {cd : Code} {own : String} {cc : ByteArray} {nL : Nat} {ret : Option FieldType} (C : MC g p s m args meth cd own cc nL ret) {σ : Hp} {H : Heap} {locs : List Loc} (h1 : HB g s σ H) (h2 : va_S (AF g) s.heap H locs) : ∀ U : State, U.heap = H → s.WarmedH U.vm → InS g σ U := fun U hU hW =>
  ⟨by rw [hU]; exact h1.moved hW.alike, va_K.moved hW.alike C.hK, C.hE.warm hW, C.hSx.warm hW, by rw [hU]; exact Nat.le_trans C.hB h2.1, C.hX⟩
theorem blind (g : GG) (av : List AV) (σ : Hp) : FrameBlind (va_Pc (av.map (cv g)) (InS g σ)) := fun a U g9 mk q => by
  obtain ⟨q0, q1, q2, q3, q4, q5, q6⟩ := q
  exact ⟨q0, q1.moved (Vm.Alike.refl U.vm), va_K.moved (u := U) (U := U.calling g9 mk a) (Vm.Alike.refl U.vm) q2, EX.same (u := U) rfl q3, SX.same (u := U) rfl q4, q5, q6⟩
theorem ww_of_run {g : GG} {p : Program} {l : Launch} {e : Env} {s : State} {m : MethodId} {args : Array Value} {below : List Frame} {meth : Method} {cd : Code} {nL lv mc ms a b pc : Nat} {Q : State → Prop} {ls : List (Option AV)} {st rest : List AV} {σ : Hp} {k : Nat × Nat} {aa : Array Value} {Qf : Option AV → Hp → Prop} (hQf : ∀ r σ', Qf r σ' → WW g p l e s m args below meth cd nL lv mc ms Q (pc + 3) ls (r.toList ++ rest) σ' (k.1 + a, k.2 + b)) (ha : k.1 + a ≤ mc) (hb : k.2 + b ≤ ms)
    (hrun : ∀ (H : Heap) (locs : List Loc) (la : Array Slot), HB g s σ H → va_S (AF g) s.heap H locs → LH g nL ls la → va_Run p l e (rmOf lv mc ms) s m args below meth cd H locs k.1 k.2 a b (F0 m pc la (st.map (cv g))) (rest.map (cv g)) (OutS g Qf aa) (AF g)) :
    WW g p l e s m args below meth cd nL lv mc ms Q pc ls st σ k := fun H locs la h1 h2 h3 h4 h5 => by
  intro T hT X
  obtain ⟨v, st₀, t, T', L, h0, X', hL, e1, e2, ⟨⟨r, σ', hv, hq, hB⟩, hz, hk⟩, hst⟩ := hrun H locs la h1 h2 h3 T hT X
  cases hv
  rw [h0] at hz hk
  have hB2 : HB g s σ' T'.heap := by
    rw [e1]
    exact hB.moved (by rw [← e2]; exact X'.warmed.alike.symm)
  obtain ⟨t2, a1, b1⟩ := hQf r σ' hq T'.heap (locs ++ L) la hB2 ⟨Nat.le_trans h2.1 (by rw [e1]; exact hz), fun q y1 y2 => by rw [e1, hk q (Nat.lt_of_lt_of_le y1 h2.1) y2]; exact h2.2.1 q y1 y2, fun q hq => by
    rcases List.mem_append.mp hq with h | h
    · exact h2.2.2 q h
    · exact hL q h⟩ h3 ha hb T' rfl X'
  refine ⟨t2, hst t2 ?_, b1⟩
  have e9 : (r.map (cv g)).toList ++ rest.map (cv g) = (r.toList ++ rest).map (cv g) := by cases r <;> simp
  show Steps p.tables e below (T'.setTop (F0 m (pc + 3) la ((r.map (cv g)).toList ++ rest.map (cv g)))) t2
  rw [e9]
  exact a1
/-- a method's link in a class -/
def MLk (own : String) (index : Nat) (y : MethodName) (cc : ByteArray) (nL : Nat) (ret : Option FieldType) (n : Nat) : Prop :=
  Cond.methodLink own index y ∈ TBL ∧ Cond.code y cc nL ret ∈ TBL ∧ Cond.initialized y.cls ∈ TBL ∧ (y.cls ≠ "java/lang/invoke/MethodHandle" ∧ y.cls ≠ "java/lang/invoke/VarHandle" ∧ (parseMethodDescriptor y.desc).map (fun d => d.parameters.length) = some n) ∧ nL ≤ 100
theorem wsOf_good {y : MethodName} {cc : ByteArray} {nL : Nat} {ret : Option FieldType} (h : Cond.code y cc nL ret ∈ TBL) : GoodIn TBL (wsOf y cc nL ret) := fun w hw => by
  have h1 : w ∈ TBL := by
    rcases List.mem_cons.mp hw with rfl | h2
    · exact h
    · exact h2
  exact ⟨h1, good_of_word (TBL_good h1)⟩
theorem row_V {own : String} {index : Nat} {y : MethodName} {cc' : ByteArray} {nL' n : Nat} {ret' : Option FieldType} {lvc a b ci : Nat} {sp : Sp} (hc : Ct y cc' nL' ret' lvc a b sp) (hL : MLk own index y cc' nL' ret' n) (hci : ci < 14) (hy : y.cls = cR ci) (hin : Cond.instanceMethod y ∈ TBL) (hse : Cond.selects y.cls y y ∈ TBL)
    (hrecv : ∀ av σ Q, sp av σ Q → ∃ r tl, av = vr r :: tl ∧ kd σ r = ci + 1) : Row own (.invokevirtual index) 3 (n + 1) a b lvc sp := by
  intro g p l e s m args below meth cd nL lv mc ms Q cc ret pc ls av rest σ k Qf C hn hr hlv ha hb hd hsp hQf
  obtain ⟨r, tl, rfl, hk⟩ := hrecv _ _ _ hsp
  obtain ⟨l1, l2, l3, l4, l5⟩ := hL
  have hM := hc l g _ _ _ hsp
  refine ww_of_run (rest := rest) (aa := (Value.ref (ad g r) :: tl.map (cv g)).toArray) hQf ha hb fun H locs la h1 h2 h3 => ?_
  have hr0 := (h1.2.1.2.1 r (by omega)).1
  have eM : List.map (cv g) (vr r :: tl) = .ref (ad g r) :: tl.map (cv g) := by
    show va_rf (rv g r) :: _ = _
    rw [rv_ne hr0]
    rfl
  have hCB : CallB (rmOf lv mc ms) s args own index y cc' nL' ret' (wsOf y cc' nL' ret') (rmOf lvc a b) a b n := callB_of (Ts := TBL) n C.hts (wsOf_good l2) rfl rfl rfl (C.hts _ l3) (C.hts _ l1) l4 ⟨by show lvc + 1 ≤ lv; omega, by show 8 + (nL' + 11) + 128 * lvc ≤ 128 * lv; omega⟩
  have hcell := recv_obj C.hK h1 hci hk
  rw [← hy] at hcell
  have hrun := va_runV (l := l) (e := e) (below := below) (meth := meth) (H := H) (locs := locs) (cells := k.1) (slots := k.2) (As := tl.map (cv g)) (b := ad g r) (C := y.cls) (rest := rest.map (cv g)) (g := F0 m pc la (List.map (cv g) ((vr r :: tl).reverse ++ rest))) (Ts := TBL) ⟨C.hx, C.hb, C.hml, C.hown, C.hts⟩ hM ⟨hCB, C.hts _ hin, C.hts _ hse⟩ ⟨blind g _ _, hcell, fun U hU hW => ⟨by rw [eM], C.ext h1 h2 U hU hW⟩⟩ rfl (by rw [List.length_map]; have : tl.length + 1 = n + 1 := hn; omega) h3.1 (by show List.map (cv g) ((vr r :: tl).reverse ++ rest) = _; rw [List.map_append, List.map_reverse, eM]; simp) (lv_room (by rw [catS_eq]; exact hr)) hd ⟨by show k.1 + a ≤ mc; exact ha, by show k.2 + b ≤ ms; exact hb⟩
  exact hrun

/-! other calls; the contract out of the body; the evaluator -/
theorem row_S {own : String} {index : Nat} {y : MethodName} {cc' : ByteArray} {nL' n : Nat} {ret' : Option FieldType} {lvc a b : Nat} {sp : Sp} (hc : Ct y cc' nL' ret' lvc a b sp) (hL : MLk own index y cc' nL' ret' n) (hst : Cond.static y ∈ TBL) : Row own (.invokestatic index) 3 n a b lvc sp := by
  intro g p l e s m args below meth cd nL lv mc ms Q cc ret pc ls av rest σ k Qf C hn hr hlv ha hb hd hsp hQf
  obtain ⟨l1, l2, l3, l4, l5⟩ := hL
  have hM := hc l g _ _ _ hsp
  refine ww_of_run (rest := rest) (aa := (av.map (cv g)).toArray) hQf ha hb fun H locs la h1 h2 h3 => ?_
  have hCB : CallB (rmOf lv mc ms) s args own index y cc' nL' ret' (wsOf y cc' nL' ret') (rmOf lvc a b) a b n := callB_of (Ts := TBL) n C.hts (wsOf_good l2) rfl rfl rfl (C.hts _ l3) (C.hts _ l1) l4 ⟨by show lvc + 1 ≤ lv; omega, by show 8 + (nL' + 11) + 128 * lvc ≤ 128 * lv; omega⟩
  exact va_runS (l := l) (e := e) (below := below) (meth := meth) (H := H) (locs := locs) (cells := k.1) (slots := k.2) (As := av.map (cv g)) (rest := rest.map (cv g)) (g := F0 m pc la (List.map (cv g) (av.reverse ++ rest))) (Ts := TBL) ⟨C.hx, C.hb, C.hml, C.hown, C.hts⟩ hM ⟨hCB, C.hts _ hst⟩ ⟨blind g _ _, fun U hU hW => ⟨rfl, C.ext h1 h2 U hU hW⟩⟩ rfl (by rw [List.length_map]; exact hn) h3.1 (by show List.map (cv g) (av.reverse ++ rest) = _; rw [List.map_append, List.map_reverse]) (lv_room (by rw [catS_eq]; exact hr)) hd ⟨by show k.1 + a ≤ mc; exact ha, by show k.2 + b ≤ ms; exact hb⟩
theorem row_I {own : String} {index : Nat} {y : MethodName} {cc' : ByteArray} {nL' n : Nat} {lvc a b : Nat} {sp : Sp} (hc : Ct y cc' nL' none lvc a b sp) (hL : MLk own index y cc' nL' none n) (hin : Cond.instanceMethod y ∈ TBL) (hy1 : y.name = "<init>")
    (hrecv : ∀ av σ Q, sp av σ Q → ∃ r tl, av = vr r :: tl ∧ kd σ r ≠ 0) : Row own (.invokespecial index) 3 (n + 1) a b lvc sp := by
  intro g p l e s m args below meth cd nL lv mc ms Q cc ret pc ls av rest σ k Qf C hn hr hlv ha hb hd hsp hQf
  obtain ⟨r, tl, rfl, hk⟩ := hrecv _ _ _ hsp
  obtain ⟨l1, l2, l3, l4, l5⟩ := hL
  have hM := hc l g _ _ _ hsp
  refine ww_of_run (rest := rest) (aa := (Value.ref (ad g r) :: tl.map (cv g)).toArray) hQf ha hb fun H locs la h1 h2 h3 => ?_
  have hr0 := (h1.2.1.2.1 r hk).1
  have eM : List.map (cv g) (vr r :: tl) = .ref (ad g r) :: tl.map (cv g) := by
    show va_rf (rv g r) :: _ = _
    rw [rv_ne hr0]
    rfl
  have hCB : CallB (rmOf lv mc ms) s args own index y cc' nL' none (wsOf y cc' nL' none) (rmOf lvc a b) a b n := callB_of (Ts := TBL) n C.hts (wsOf_good l2) rfl rfl rfl (C.hts _ l3) (C.hts _ l1) l4 ⟨by show lvc + 1 ≤ lv; omega, by show 8 + (nL' + 11) + 128 * lvc ≤ 128 * lv; omega⟩
  exact va_runI (l := l) (e := e) (below := below) (meth := meth) (H := H) (locs := locs) (cells := k.1) (slots := k.2) (As := tl.map (cv g)) (b := ad g r) (rest := rest.map (cv g)) (g := F0 m pc la (List.map (cv g) ((vr r :: tl).reverse ++ rest))) (Ts := TBL) ⟨C.hx, C.hb, C.hml, C.hown, C.hts⟩ hM ⟨hCB, hy1, C.hts _ hin⟩ ⟨blind g _ _, fun U hU hW => ⟨by rw [eM], C.ext h1 h2 U hU hW⟩⟩ rfl (by rw [List.length_map]; have : tl.length + 1 = n + 1 := hn; omega) h3.1 (by show List.map (cv g) ((vr r :: tl).reverse ++ rest) = _; rw [List.map_append, List.map_reverse, eM]; simp) (lv_room (by rw [catS_eq]; exact hr)) hd ⟨by show k.1 + a ≤ mc; exact ha, by show k.2 + b ≤ ms; exact hb⟩
/-- a private constructor of a nest mate -/
theorem row_IN {own host : String} {index : Nat} {y : MethodName} {cc' : ByteArray} {nL' n : Nat} {lvc a b : Nat} {sp : Sp} (hc : Ct y cc' nL' none lvc a b sp) (l1 : Cond.methodLinkNest own index y host ∈ XW) (l2 : Cond.code y cc' nL' none ∈ TBL) (l3 : Cond.initialized y.cls ∈ TBL) (l4 : y.cls ≠ "java/lang/invoke/MethodHandle" ∧ y.cls ≠ "java/lang/invoke/VarHandle" ∧ (parseMethodDescriptor y.desc).map (fun d => d.parameters.length) = some n) (l5 : nL' ≤ 100) (hin : Cond.instanceMethod y ∈ TBL) (hy1 : y.name = "<init>")
    (hrecv : ∀ av σ Q, sp av σ Q → ∃ r tl, av = vr r :: tl ∧ kd σ r ≠ 0) : Row own (.invokespecial index) 3 (n + 1) a b lvc sp := by
  intro g p l e s m args below meth cd nL lv mc ms Q cc ret pc ls av rest σ k Qf C hn hr hlv ha hb hd hsp hQf
  obtain ⟨r, tl, rfl, hk⟩ := hrecv _ _ _ hsp
  have hM := hc l g _ _ _ hsp
  refine ww_of_run (rest := rest) (aa := (Value.ref (ad g r) :: tl.map (cv g)).toArray) hQf ha hb fun H locs la h1 h2 h3 => ?_
  have hr0 := (h1.2.1.2.1 r hk).1
  have eM : List.map (cv g) (vr r :: tl) = .ref (ad g r) :: tl.map (cv g) := by
    show va_rf (rv g r) :: _ = _
    rw [rv_ne hr0]
    rfl
  have hCB : va_CN (rmOf lv mc ms) s args own index y host cc' nL' none (wsOf y cc' nL' none) (rmOf lvc a b) a b n := va_cnB (Ts := TBL) n C.hts (wsOf_good l2) rfl rfl rfl (C.hE _ l1) (C.hts _ l3) l4 ⟨by show lvc + 1 ≤ lv; omega, by show 8 + (nL' + 11) + 128 * lvc ≤ 128 * lv; omega⟩
  exact va_runIN (l := l) (e := e) (below := below) (meth := meth) (H := H) (locs := locs) (cells := k.1) (slots := k.2) (As := tl.map (cv g)) (b := ad g r) (rest := rest.map (cv g)) (g := F0 m pc la (List.map (cv g) ((vr r :: tl).reverse ++ rest))) (Ts := TBL) ⟨C.hx, C.hb, C.hml, C.hown, C.hts⟩ hM ⟨hCB, hy1, C.hts _ hin⟩ ⟨blind g _ _, fun U hU hW => ⟨by rw [eM], C.ext h1 h2 U hU hW⟩⟩ rfl (by rw [List.length_map]; have : tl.length + 1 = n + 1 := hn; omega) h3.1 (by show List.map (cv g) ((vr r :: tl).reverse ++ rest) = _; rw [List.map_append, List.map_reverse, eM]; simp) (lv_room (by rw [catS_eq]; exact hr)) hd ⟨by show k.1 + a ≤ mc; exact ha, by show k.2 + b ≤ ms; exact hb⟩
/-- Object's constructor -/
def spObj : Sp := fun av σ Q => (match av with | [.inr (.inr r)] => r ≠ 0 | _ => False) ∧ Q none σ
theorem row_obj {own : String} {index : Nat} (h1 : Cond.methodLink own index objectInit ∈ TBL) (h2 : Cond.instanceMethod objectInit ∈ TBL) (h3 : Cond.code objectInit ⟨#[0xb1]⟩ 1 none ∈ TBL) : Row own (.invokespecial index) 3 1 0 0 0 spObj := by
  intro g p l e s m args below meth cd nL lv mc ms Q cc ret pc ls av rest σ k Qf C hn hr hlv ha hb hd hsp hQf
  obtain ⟨hav, hq⟩ := hsp
  rcases av with _ | ⟨v, _ | ⟨w, tl⟩⟩
  · exact hav.elim
  · rcases v with x | x | x
    · exact hav.elim
    · exact hav.elim
    · intro H locs la a1 a2 a3 a4 a5
      have kk := hQf _ _ hq H locs la a1 a2 a3 a4 a5
      show W p l e (rmOf lv mc ms) s m args below meth cd H locs k.1 k.2 Q (F0 m pc la (va_rf (rv g x) :: rest.map (cv g)))
      rw [rv_ne hav]
      exact W.objInit C.hx C.hb C.hown (C.hts _ h1) (C.hts _ h2) (C.hts _ h3) rfl (a3.1.trans C.hml.symm) rfl hd (by show 1 ≤ lv; omega) (by show 2 * 0 + _ + 12 ≤ 128 * lv; rw [catS_eq]; omega) kk
  · rcases v with x | x | x <;> exact hav.elim
def argS (v : AV) : List (Option AV) := match v with
  | .inr (.inl x) => [some (vl x), none]
  | .inl x => [some (vi x)]
  | .inr (.inr x) => [some (vr x)]
def argL1 (av : List AV) : List (Option AV) := av.flatMap argS
def argL (nL : Nat) (av : List AV) : List (Option AV) := argL1 av ++ List.replicate (nL - (argL1 av).length) none
theorem argL1_sl (g : GG) : ∀ av : List AV, (lg_sl (av.map (cv g))).length = (argL1 av).length
  | [] => rfl
  | v :: av => by
    have ih := argL1_sl g av
    show ((if (cv g v).category = 2 then [Slot.val (cv g v), .second] else [.val (cv g v)]) ++ lg_sl (av.map (cv g))).length = (argS v ++ argL1 av).length
    rw [List.length_append, List.length_append, ih, cv_cat]
    rcases v with x | x | x <;> rfl
theorem argL1_at (g : GG) : ∀ (av : List AV) (i j : Nat) (v : AV), (argL1 av)[i]? = some (some v) → (j + i, cv g v) ∈ lv_args j (av.map (cv g))
  | [], i, j, v, h => by simp [argL1] at h
  | u :: av, i, j, v, h => by
    have e : argL1 (u :: av) = argS u ++ argL1 av := rfl
    rw [e] at h
    show (j + i, cv g v) ∈ (j, cv g u) :: lv_args (if (cv g u).category = 2 then j + 2 else j + 1) (av.map (cv g))
    rw [cv_cat]
    rcases u with x | x | x
    · rcases i with _ | i
      · cases h; exact List.mem_cons_self
      · have := argL1_at g av i (j + 1) v h
        rw [show j + 1 + i = j + (i + 1) by omega] at this
        exact List.mem_cons_of_mem _ this
    · rcases i with _ | _ | i
      · cases h; exact List.mem_cons_self
      · cases h
      · have := argL1_at g av i (j + 2) v h
        rw [show j + 2 + i = j + (i + 2) by omega] at this
        exact List.mem_cons_of_mem _ this
    · rcases i with _ | i
      · cases h; exact List.mem_cons_self
      · have := argL1_at g av i (j + 1) v h
        rw [show j + 1 + i = j + (i + 1) by omega] at this
        exact List.mem_cons_of_mem _ this
theorem Ct.of {y : MethodName} {cc : ByteArray} {nL : Nat} {ret : Option FieldType} {lv mc ms : Nat} {sp : Sp} (hy : plainFor y = true)
    (body : ∀ (g : GG) (p : Program) (l : Launch) (e : Env) (s : State) (m : MethodId) (args : Array Value) (below : List Frame) (meth : Method) (cd : Code) (av : List AV) (σ : Hp) (QQ : Option AV → Hp → Prop), MC g p s m args meth cd y.cls cc nL ret → meth.name = y.name → sp av σ QQ →
      (argL1 av).length ≤ nL ∧ WW g p l e s m args below meth cd nL lv mc ms (MQ below (OutS g QQ) args s mc ms (AF g)) 0 (argL nL av) [] σ (0, 0)) : Ct y cc nL ret lv mc ms sp := by
  intro l g av σ QQ hsp
  refine va_MetF hy rfl ?_
  intro p e s m args below meth c s₁ B hml hv
  obtain ⟨rfl, hB, hK, hE, hSx, hb, hX⟩ := hv
  have hts := atoms_spec (ws := wsOf y cc nL ret) B.pre
  have hown : s.vm.findClass y.cls = some m.cls := findClass_of_methodNamed B.named
  obtain ⟨hlen, hw⟩ := body g p l e s m _ below meth c av σ QQ ⟨B.exec, B.bytes, hml, B.returns, B.notSynchronized, hown, fun w hw => hts w (List.mem_cons_of_mem _ hw), hK, hE, hSx, hb, hX⟩ (name_of_methodNamed B.named B.method).1 hsp
  have hl9 := lv_entry (av.map (cv g)) (n := nL) (by rw [argL1_sl]; exact hlen)
  rw [lg_entry_eq]
  refine hw s.heap [] _ hB va_S.rf ⟨hl9.1, ?_, hl9.2.1, fun i v hi => ?_⟩ (Nat.zero_le _) (Nat.zero_le _)
  · unfold argL
    rw [List.length_append, List.length_replicate]
    omega
  · unfold argL at hi
    by_cases h : i < (argL1 av).length
    · rw [List.getElem?_append_left h] at hi
      have := argL1_at g av i 0 v hi
      rw [Nat.zero_add] at this
      exact hl9.2.2 _ this
    · rw [List.getElem?_append_right (by omega)] at hi
      have := List.eq_of_mem_replicate (List.mem_of_getElem? hi)
      cases this
/-! THE EVALUATOR: what must hold for the machine to go on from a place; k goes on -/
abbrev Kt : Type := Nat → List (Option AV) → List AV → Hp → Nat × Nat → Prop
def oI (st : List AV) (f : Int → List AV → Prop) : Prop := match st with
  | .inl x :: r => f x r
  | _ => False
def oL (st : List AV) (f : BitVec 64 → List AV → Prop) : Prop := match st with
  | .inr (.inl x) :: r => f x r
  | _ => False
def oR (st : List AV) (f : Int → List AV → Prop) : Prop := match st with
  | .inr (.inr x) :: r => f x r
  | _ => False
/-- any one of one slot -/
def o1 (st : List AV) (f : AV → List AV → Prop) : Prop := match st with
  | .inl x :: r => f (vi x) r
  | .inr (.inr x) :: r => f (vr x) r
  | _ => False
def oV (st : List AV) (f : AV → List AV → Prop) : Prop := match st with
  | v :: r => f v r
  | _ => False
def lI (ls : List (Option AV)) (i : Nat) (f : Int → Prop) : Prop := match ls[i]? with
  | some (some (.inl x)) => f x
  | _ => False
def lL (ls : List (Option AV)) (i : Nat) (f : BitVec 64 → Prop) : Prop := match ls[i]? with
  | some (some (.inr (.inl x))) => f x
  | _ => False
def lR (ls : List (Option AV)) (i : Nat) (f : Int → Prop) : Prop := match ls[i]? with
  | some (some (.inr (.inr x))) => f x
  | _ => False
def popN : Nat → List AV → List AV → (List AV → List AV → Prop) → Prop
  | 0, st, acc, f => f acc st
  | n + 1, v :: st, acc, f => popN n st (v :: acc) f
  | _ + 1, [], _, _ => False
/-- a switch -/
def swt (x : Int) : Int → List Int → (Int → Prop) → Prop
  | _, [], _ => True
  | lo, o :: os, f => (wI x = lo → f o) ∧ swt x (lo + 1) os f
/-- a callee: arguments, cells and slots that it may make, level, specification -/
abbrev Mt : Type := Nat × Nat × Nat × Nat × Sp
/-- a method's table: place, instruction, length, what its link says -/
abbrev Tab : Type := List (Nat × Instr × Nat × (Nat × Nat × Nat × Int))
def stp (nL lv mc ms rt : Nat) (mt : List (Nat × Mt)) (R : Option AV → Hp → Prop) (f : Kt) (i : Instr) (len : Nat) (r : Nat × Nat × Nat × Int) (pc : Nat) (ls : List (Option AV)) (st : List AV) (σ : Hp) (k : Nat × Nat) : Prop :=
  let go := f (pc + len)
  let cl := fun (ix : Nat) => match mt.lookup ix with
    | some (n, a, b, lvc, sp) => popN n st [] fun av rest => (catS rest ≤ 8 ∧ lvc < lv ∧ k.1 + a ≤ mc ∧ k.2 + b ≤ ms) ∧ sp av σ fun v σ' => f (pc + len) ls (v.toList ++ rest) σ' (k.1 + a, k.2 + b)
    | none => False
  match i with
  | .iconst n => go ls (vi n :: st) σ k
  | .bipush n => go ls (vi n :: st) σ k
  | .sipush n => go ls (vi n :: st) σ k
  | .lconst n => go ls (vl (BitVec.ofNat 64 n.val) :: st) σ k
  | .iload_n n => lI ls n.val fun x => go ls (vi x :: st) σ k
  | .iload n => lI ls n fun x => go ls (vi x :: st) σ k
  | .lload_n n => lL ls n.val fun x => go ls (vl x :: st) σ k
  | .lload n => lL ls n fun x => go ls (vl x :: st) σ k
  | .aload_n n => lR ls n.val fun x => go ls (vr x :: st) σ k
  | .aload n => lR ls n fun x => go ls (vr x :: st) σ k
  | .istore_n n => oI st fun x st => n.val < nL ∧ go (stL ls n.val (vi x)) st σ k
  | .istore n => oI st fun x st => n < nL ∧ go (stL ls n (vi x)) st σ k
  | .lstore_n n => oL st fun x st => n.val + 1 < nL ∧ go (stL2 ls n.val (vl x)) st σ k
  | .lstore n => oL st fun x st => n + 1 < nL ∧ go (stL2 ls n (vl x)) st σ k
  | .astore_n n => oR st fun x st => n.val < nL ∧ go (stL ls n.val (vr x)) st σ k
  | .astore n => oR st fun x st => n < nL ∧ go (stL ls n (vr x)) st σ k
  | .iinc n c => lI ls n fun x => n < nL ∧ go (stL ls n (vi (x + c))) st σ k
  | .iadd => oI st fun y st => oI st fun x st => go ls (vi (x + y) :: st) σ k
  | .isub => oI st fun y st => oI st fun x st => go ls (vi (x - y) :: st) σ k
  | .imul => oI st fun y st => oI st fun x st => go ls (vi (x * y) :: st) σ k
  | .idiv => oI st fun y st => oI st fun x st => ¬ wI y = 0 ∧ go ls (vi (dvI x y) :: st) σ k
  | .irem => oI st fun y st => oI st fun x st => ¬ wI y = 0 ∧ go ls (vi (rmI x y) :: st) σ k
  | .ineg => oI st fun x st => go ls (vi (-x) :: st) σ k
  | .iand => oI st fun y st => oI st fun x st => go ls (vi (bAnd x y) :: st) σ k
  | .ior => oI st fun y st => oI st fun x st => go ls (vi (bOr x y) :: st) σ k
  | .ixor => oI st fun y st => oI st fun x st => go ls (vi (bXor x y) :: st) σ k
  | .ishl => oI st fun y st => oI st fun x st => go ls (vi (shlI x y) :: st) σ k
  | .ishr => oI st fun y st => oI st fun x st => go ls (vi (shrI x y) :: st) σ k
  | .iushr => oI st fun y st => oI st fun x st => go ls (vi (ushI x y) :: st) σ k
  | .i2c => oI st fun x st => go ls (vi (x % 65536) :: st) σ k
  | .i2l => oI st fun x st => go ls (vl (BitVec.ofInt 64 (wI x)) :: st) σ k
  | .l2i => oL st fun x st => go ls (vi x.toInt :: st) σ k
  | .ladd => oL st fun y st => oL st fun x st => go ls (vl (x + y) :: st) σ k
  | .lsub => oL st fun y st => oL st fun x st => go ls (vl (x - y) :: st) σ k
  | .lmul => oL st fun y st => oL st fun x st => go ls (vl (x * y) :: st) σ k
  | .lneg => oL st fun x st => go ls (vl (-x) :: st) σ k
  | .land => oL st fun y st => oL st fun x st => go ls (vl (x &&& y) :: st) σ k
  | .lor => oL st fun y st => oL st fun x st => go ls (vl (x ||| y) :: st) σ k
  | .lxor => oL st fun y st => oL st fun x st => go ls (vl (x ^^^ y) :: st) σ k
  | .lshl => oI st fun y st => oL st fun x st => go ls (vl (x <<< (y % 64).toNat) :: st) σ k
  | .lushr => oI st fun y st => oL st fun x st => go ls (vl (x >>> (y % 64).toNat) :: st) σ k
  | .lcmp => oL st fun y st => oL st fun x st => go ls (vi (cmL x y) :: st) σ k
  | .aconst_null => go ls (vr 0 :: st) σ k
  | .dup => o1 st fun v st => go ls (v :: v :: st) σ k
  | .pop => o1 st fun _ st => go ls st σ k
  | .dup_x1 => o1 st fun v st => o1 st fun u st => go ls (v :: u :: v :: st) σ k
  | .dup2 => o1 st fun v st => o1 st fun u st => go ls (v :: u :: v :: u :: st) σ k
  | .goto off => f ((pc : Int) + off).toNat ls st σ k
  | .if_icmp c off => oI st fun y st => oI st fun x st => (cnd c x y → f ((pc : Int) + off).toNat ls st σ k) ∧ (¬ cnd c x y → go ls st σ k)
  | .ifCond c off => oI st fun x st => (cnd c x 0 → f ((pc : Int) + off).toNat ls st σ k) ∧ (¬ cnd c x 0 → go ls st σ k)
  | .if_acmp .eq off => oR st fun y st => oR st fun x st => (0 ≤ x ∧ 0 ≤ y) ∧ (x = y → f ((pc : Int) + off).toNat ls st σ k) ∧ (¬ x = y → go ls st σ k)
  | .if_acmp .ne off => oR st fun y st => oR st fun x st => (0 ≤ x ∧ 0 ≤ y) ∧ (¬ x = y → f ((pc : Int) + off).toNat ls st σ k) ∧ (x = y → go ls st σ k)
  | .ifnull off => oR st fun x st => (x = 0 → f ((pc : Int) + off).toNat ls st σ k) ∧ (¬ x = 0 → go ls st σ k)
  | .ifnonnull off => oR st fun x st => (¬ x = 0 → f ((pc : Int) + off).toNat ls st σ k) ∧ (x = 0 → go ls st σ k)
  | .tableswitch d lo hi offs => oI st fun x st => (wI x < lo ∨ hi < wI x → f ((pc : Int) + d).toNat ls st σ k) ∧ swt x lo offs.toList fun off => f ((pc : Int) + off).toNat ls st σ k
  | .getfield _ => oR st fun x st => kd σ x = r.1 ∧ go ls (gv σ r.2.2.1 r.2.1 x :: st) σ k
  | .putfield _ => match r.2.2.1 with
    | 0 => oI st fun v st => oR st fun x st => kd σ x = r.1 ∧ go ls st (pI σ r.2.1 x v) k
    | 1 => oL st fun v st => oR st fun x st => kd σ x = r.1 ∧ go ls st (pL σ r.2.1 x v) k
    | 2 => oR st fun v st => oR st fun x st => kd σ x = r.1 ∧ go ls st (pR σ r.2.1 x v) k
    | _ => oI st fun v st => oR st fun x st => kd σ x = r.1 ∧ (v = 0 ∨ v = 1) ∧ go ls st (pI σ r.2.1 x v) k
  | .iaload => oI st fun j st => oR st fun x st => (kd σ x = 101 ∨ kd σ x = 108) ∧ (0 ≤ j ∧ j < ln σ x) ∧ go ls (vi (aI σ x j) :: st) σ k
  | .laload => oI st fun j st => oR st fun x st => kd σ x = 102 ∧ (0 ≤ j ∧ j < ln σ x) ∧ go ls (vl (aL σ x j) :: st) σ k
  | .baload => oI st fun j st => oR st fun x st => (kd σ x = 103 ∨ kd σ x = 21) ∧ (0 ≤ j ∧ j < ln σ x) ∧ go ls (vi (aI σ x j) :: st) σ k
  | .caload => oI st fun j st => oR st fun x st => kd σ x = 104 ∧ (0 ≤ j ∧ j < ln σ x) ∧ go ls (vi (aI σ x j) :: st) σ k
  | .aaload => oI st fun j st => oR st fun x st => (kd σ x = 105 ∨ kd σ x = 106 ∨ kd σ x = 107) ∧ (0 ≤ j ∧ j < ln σ x) ∧ go ls (vr (aR σ x j) :: st) σ k
  | .iastore => oI st fun v st => oI st fun j st => oR st fun x st => kd σ x = 101 ∧ (0 ≤ j ∧ j < ln σ x) ∧ go ls st (qI σ x j v) k
  | .lastore => oL st fun v st => oI st fun j st => oR st fun x st => kd σ x = 102 ∧ (0 ≤ j ∧ j < ln σ x) ∧ go ls st (qL σ x j v) k
  | .bastore => oI st fun v st => oI st fun j st => oR st fun x st => kd σ x = 103 ∧ (0 ≤ j ∧ j < ln σ x) ∧ (v = 0 ∨ v = 1) ∧ go ls st (qI σ x j v) k
  | .castore => oI st fun v st => oI st fun j st => oR st fun x st => kd σ x = 104 ∧ (0 ≤ j ∧ j < ln σ x) ∧ (0 ≤ v ∧ v < 65536) ∧ go ls st (qI σ x j v) k
  | .arraylength => oR st fun x st => (101 ≤ kd σ x ∨ kd σ x = 21) ∧ go ls (vi (ln σ x) :: st) σ k
  | .new _ => (k.1 + 1 ≤ mc ∧ k.2 + r.2.1 ≤ ms) ∧ go ls (vr (nx σ) :: st) (mk σ r.1 0) (k.1 + 1, k.2 + r.2.1)
  | .newarray _ => oI st fun n st => (0 ≤ n ∧ n ≤ 65536) ∧ (k.1 + 1 ≤ mc ∧ k.2 + n.toNat ≤ ms) ∧ go ls (vr (nx σ) :: st) (mk σ r.1 n) (k.1 + 1, k.2 + n.toNat)
  | .checkcast _ => oR st fun x st => kd σ x = r.1 ∧ go ls (vr x :: st) σ k
  | .ldc ix => match r.1 with
    | 1 => go ls (vi r.2.2.2 :: st) σ k
    | 2 => go ls (vr (-r.2.2.2) :: st) σ k
    | _ => cl (8 * ix + 4)
  | .ldc_w _ => go ls (vi r.2.2.2 :: st) σ k
  | .ldc2_w _ => go ls (vl (BitVec.ofInt 64 r.2.2.2) :: st) σ k
  | .invokevirtual ix => cl (8 * ix)
  | .invokestatic ix => cl (8 * ix + 1)
  | .invokespecial ix => cl (8 * ix + 2)
  | .getstatic ix => cl (8 * ix + 3)
  | .aastore => cl 6
  | .anewarray ix => cl (8 * ix + 5)
  | .ireturn => oI st fun x st => st = [] ∧ (match rt with | 1 => True | 2 => x = 0 ∨ x = 1 | 3 => 0 ≤ x ∧ x < 65536 | _ => False) ∧ R (some (vi x)) σ
  | .lreturn => oL st fun x st => st = [] ∧ rt = 4 ∧ R (some (vl x)) σ
  | .areturn => oR st fun x st => st = [] ∧ rt = 5 ∧ R (some (vr x)) σ
  | .return_ => st = [] ∧ rt = 0 ∧ R none σ
  | _ => False
/-- from place to place, till a cut -/
def ex (nL lv mc ms rt : Nat) (T : Tab) (mt : List (Nat × Mt)) (ct : Nat → Bool) (K : Kt) (R : Option AV → Hp → Prop) : Nat → Kt
  | 0 => fun _ _ _ _ _ => False
  | n + 1 => fun pc ls st σ k => match T.lookup pc with
    | none => False
    | some (i, len, r) => stp nL lv mc ms rt mt R (fun pc' ls' st' σ' k' => match ct pc' with
      | true => K pc' ls' st' σ' k'
      | false => ex nL lv mc ms rt T mt ct K R n pc' ls' st' σ' k') i len r pc ls st σ k

/-! the evaluator is sound -/
def instrOf (key : Nat) : Instr := match key % 8 with
  | 0 => .invokevirtual (key / 8)
  | 1 => .invokestatic (key / 8)
  | 2 => .invokespecial (key / 8)
  | 3 => .getstatic (key / 8)
  | 4 => .ldc (key / 8)
  | 5 => .anewarray (key / 8)
  | _ => .aastore
def lenOf (key : Nat) : Nat := match key % 8 with
  | 4 => 2
  | 6 => 1
  | _ => 3
def MOK (own : String) (mt : List (Nat × Mt)) : Prop := ∀ q ∈ mt, Row own (instrOf q.1) (lenOf q.1) q.2.1 q.2.2.1 q.2.2.2.1 q.2.2.2.2.1 q.2.2.2.2.2
theorem lookup_mem {α β : Type} [BEq α] [LawfulBEq α] {l : List (α × β)} {a : α} {b : β} (h : l.lookup a = some b) : (a, b) ∈ l := by
  induction l with
  | nil => cases h
  | cons x l ih =>
    obtain ⟨a2, b2⟩ := x
    rw [List.lookup_cons] at h
    cases hq : (a == a2) with
    | true => rw [hq] at h; cases h; rw [LawfulBEq.eq_of_beq hq]; exact List.mem_cons_self
    | false => rw [hq] at h; exact List.mem_cons_of_mem _ (ih h)
/-- what a row of the table must say -/
def LOK (own : String) (ini : Bool) (pc : Nat) (i : Instr) (len : Nat) (r : Nat × Nat × Nat × Int) : Prop := match i with
  | .iconst _ | .lconst _ | .iload_n _ | .lload_n _ | .aload_n _ | .istore_n _ | .lstore_n _ | .astore_n _ | .iadd | .isub | .imul | .idiv | .irem | .ineg | .iand | .ior | .ixor | .ishl | .ishr | .iushr | .i2c | .i2l | .l2i | .ladd | .lsub | .lmul | .lneg | .land | .lor | .lxor | .lshl | .lushr | .lcmp | .aconst_null | .dup | .pop | .dup_x1 | .dup2 | .iaload | .laload | .baload | .caload | .aaload | .iastore | .lastore | .bastore | .castore | .arraylength | .ireturn | .lreturn | .areturn | .return_ | .aastore => len = 1
  | .iload _ | .lload _ | .aload _ | .istore _ | .lstore _ | .astore _ => len = 2
  | .bipush n => len = 2 ∧ -128 ≤ n ∧ n < 128
  | .sipush n => len = 3 ∧ -32768 ≤ n ∧ n < 32768
  | .iinc _ _ | .invokevirtual _ | .invokestatic _ | .invokespecial _ | .getstatic _ | .anewarray _ => len = 3
  | .goto off | .if_icmp _ off | .ifCond _ off | .if_acmp _ off | .ifnull off | .ifnonnull off => len = 3 ∧ 0 ≤ (pc : Int) + off
  | .tableswitch d lo hi offs => 0 ≤ (pc : Int) + d ∧ (∀ o ∈ offs.toList, 0 ≤ (pc : Int) + o) ∧ offs.toList.length = (hi - lo + 1).toNat
  | .getfield ix => len = 3 ∧ ∃ ci j, FLk own ix ci j ∧ r.1 = ci + 1 ∧ r.2.1 = (ci + 1) * 100 + j ∧ r.2.2.1 = tcd (cty ci j)
  | .putfield ix => len = 3 ∧ ∃ ci j, FLk own ix ci j ∧ r.1 = ci + 1 ∧ r.2.1 = (ci + 1) * 100 + j ∧ (match r.2.2.1 with | 0 => cty ci j = .int | 1 => cty ci j = .long | 2 => tcd (cty ci j) = 2 | _ => cty ci j = .boolean) ∧ ((cT ci j).2.2.2 = false ∨ ((cT ci j).2.2.2 = true ∧ ini = true ∧ (cT ci j).1 = own))
  | .new ix => len = 3 ∧ ∃ ci, ci < 14 ∧ r.1 = ci + 1 ∧ r.2.1 = cN ci ∧ Cond.classLink own ix (cR ci) ∈ TBL ∧ Cond.instantiable (cR ci) (cN ci) ∈ TBL ∧ Cond.initialized (cR ci) ∈ TBL
  | .newarray t => len = 2 ∧ r.1 = nkd t ∧ nkd t ≠ 0 ∧ Cond.arrayClass (newarray.typeOf t) ∈ TBL
  | .checkcast ix => len = 3 ∧ ∃ ci, ci < 14 ∧ r.1 = ci + 1 ∧ Cond.classLink own ix (cR ci) ∈ TBL
  | .ldc ix => len = 2 ∧ (match r.1 with | 1 => Cond.constant own ix (c32 r.2.2.2) ∈ TBL | 2 => ∃ (tx : String) (n : Nat), 0 < n ∧ (own, ix, tx, n) ∈ STRS ∧ r.2.2.2 = n | _ => True)
  | .ldc_w ix => len = 3 ∧ Cond.constant own ix (c32 r.2.2.2) ∈ TBL
  | .ldc2_w ix => len = 3 ∧ Cond.constantLong own ix (c64 (BitVec.ofInt 64 r.2.2.2)) ∈ TBL
  | _ => False
theorem oI_s {st : List AV} {f : Int → List AV → Prop} (h : oI st f) : ∃ x r, st = vi x :: r ∧ f x r := by
  rcases st with _ | ⟨x | x | x, r⟩
  · exact h.elim
  · exact ⟨x, r, rfl, h⟩
  · exact h.elim
  · exact h.elim
theorem oL_s {st : List AV} {f : BitVec 64 → List AV → Prop} (h : oL st f) : ∃ x r, st = vl x :: r ∧ f x r := by
  rcases st with _ | ⟨x | x | x, r⟩
  · exact h.elim
  · exact h.elim
  · exact ⟨x, r, rfl, h⟩
  · exact h.elim
theorem oR_s {st : List AV} {f : Int → List AV → Prop} (h : oR st f) : ∃ x r, st = vr x :: r ∧ f x r := by
  rcases st with _ | ⟨x | x | x, r⟩
  · exact h.elim
  · exact h.elim
  · exact h.elim
  · exact ⟨x, r, rfl, h⟩
theorem o1_s (g : GG) {st : List AV} {f : AV → List AV → Prop} (h : o1 st f) : ∃ v r, st = v :: r ∧ (cv g v).category = 1 ∧ f v r := by
  rcases st with _ | ⟨x | x | x, r⟩
  · exact h.elim
  · exact ⟨_, r, rfl, by rw [cv_cat], h⟩
  · exact h.elim
  · exact ⟨_, r, rfl, by rw [cv_cat], h⟩
theorem lI_s {ls : List (Option AV)} {i : Nat} {f : Int → Prop} (h : lI ls i f) : ∃ x, ls[i]? = some (some (vi x)) ∧ f x := by
  unfold lI at h
  split at h
  · rename_i x hx; exact ⟨x, hx, h⟩
  · exact h.elim
theorem lL_s {ls : List (Option AV)} {i : Nat} {f : BitVec 64 → Prop} (h : lL ls i f) : ∃ x, ls[i]? = some (some (vl x)) ∧ f x := by
  unfold lL at h
  split at h
  · rename_i x hx; exact ⟨x, hx, h⟩
  · exact h.elim
theorem lR_s {ls : List (Option AV)} {i : Nat} {f : Int → Prop} (h : lR ls i f) : ∃ x, ls[i]? = some (some (vr x)) ∧ f x := by
  unfold lR at h
  split at h
  · rename_i x hx; exact ⟨x, hx, h⟩
  · exact h.elim
theorem popN_s {n : Nat} : ∀ {st acc : List AV} {f : List AV → List AV → Prop}, popN n st acc f → ∃ a r, st = a ++ r ∧ a.length = n ∧ f (a.reverse ++ acc) r := by
  induction n with
  | zero => intro st acc f h; exact ⟨[], st, rfl, rfl, h⟩
  | succ n ih =>
    intro st acc f h
    rcases st with _ | ⟨v, st⟩
    · exact h.elim
    · obtain ⟨a, r, e1, e2, e3⟩ := ih (st := st) (acc := v :: acc) h
      exact ⟨v :: a, r, by rw [e1]; rfl, by rw [List.length_cons, e2], by rw [List.reverse_cons, List.append_assoc]; exact e3⟩
def rtc (ret : Option FieldType) (rt : Nat) : Prop := match rt with
  | 0 => ret = none
  | 1 => ret = some .int
  | 2 => ret = some .boolean
  | 3 => ret = some .char
  | 4 => ret = some .long
  | _ => (∃ n, ret = some (.object n)) ∨ ∃ n, ret = some (.array n)
theorem swt_at {x : Int} {f : Int → Prop} : ∀ {os : List Int} {lo : Int}, swt x lo os f → (wI x - lo).toNat < os.length → lo ≤ wI x → ∃ o, os[(wI x - lo).toNat]? = some o ∧ f o
  | [], lo, _, h, _ => by simp at h
  | o :: os, lo, h, hn, hl => by
    by_cases e : wI x = lo
    · exact ⟨o, by rw [e, Int.sub_self]; rfl, h.1 e⟩
    · have e2 : (wI x - lo).toNat = (wI x - (lo + 1)).toNat + 1 := by omega
      rw [e2, List.length_cons] at hn
      obtain ⟨o2, h1, h2⟩ := swt_at h.2 (by omega) (by omega)
      exact ⟨o2, by rw [e2, List.getElem?_cons_succ]; exact h1, h2⟩
section SND
variable {g : GG} {p : Program} {l : Launch} {e : Env} {s : State} {m : MethodId} {args : Array Value} {below : List Frame} {meth : Method} {cd : Code} {nL lv mc ms rt : Nat}
variable {own : String} {cc : ByteArray} {ret : Option FieldType} {pc : Nat} {ls : List (Option AV)} {st : List AV} {σ : Hp} {k : Nat × Nat} {QQ : Option AV → Hp → Prop}
theorem cl_sound (C : MC g p s m args meth cd own cc nL ret) {mt : List (Nat × Mt)} (hm : MOK own mt) {f : Kt} (hf : ∀ pc ls st σ k, f pc ls st σ k → WW g p l e s m args below meth cd nL lv mc ms (MQ below (OutS g QQ) args s mc ms (AF g)) pc ls st σ k) {key len : Nat} (hl : lenOf key = len) (hd : decode cc pc = .ok (instrOf key, len))
    (h : match mt.lookup key with
      | some (n, a, b, lvc, sp) => popN n st [] fun av rest => (catS rest ≤ 8 ∧ lvc < lv ∧ k.1 + a ≤ mc ∧ k.2 + b ≤ ms) ∧ sp av σ fun v σ' => f (pc + len) ls (v.toList ++ rest) σ' (k.1 + a, k.2 + b)
      | none => False) : WW g p l e s m args below meth cd nL lv mc ms (MQ below (OutS g QQ) args s mc ms (AF g)) pc ls st σ k := by
  cases hq : mt.lookup key with
  | none => rw [hq] at h; exact h.elim
  | some q =>
    obtain ⟨n, a, b, lvc, sp⟩ := q
    rw [hq] at h
    obtain ⟨av, r, rfl, hn, ⟨c1, c2, c3, c4⟩, hsp⟩ := popN_s h
    have hrow := hm _ (lookup_mem hq)
    have := hrow g p l e s m args below meth cd nL lv mc ms (MQ below (OutS g QQ) args s mc ms (AF g)) cc ret pc ls av.reverse r σ k _ C (by rw [List.length_reverse]; exact hn) c1 c2 c3 c4 (by rw [show lenOf (key, n, a, b, lvc, sp).1 = len from hl]; exact hd) (by rw [List.append_nil] at hsp; exact hsp) (fun v σ' hv => by rw [show lenOf (key, n, a, b, lvc, sp).1 = len from hl]; exact hf _ _ _ _ _ hv)
    rw [List.reverse_reverse] at this
    exact this
theorem tgt_ok {off : Int} (h : 0 ≤ (pc : Int) + off) : (pc : Int) + off = ((((pc : Int) + off).toNat : Nat) : Int) := (Int.toNat_of_nonneg h).symm
theorem stp_sound (C : MC g p s m args meth cd own cc nL ret) {mt : List (Nat × Mt)} (hm : MOK own mt) {ini : Bool} (hini : ini = true → meth.name = "<init>") (hrt : rtc ret rt) {f : Kt} (hf : ∀ pc ls st σ k, f pc ls st σ k → WW g p l e s m args below meth cd nL lv mc ms (MQ below (OutS g QQ) args s mc ms (AF g)) pc ls st σ k)
    {i : Instr} {len : Nat} {r : Nat × Nat × Nat × Int} (hd : decode cc pc = .ok (i, len)) (hL : LOK own ini pc i len r) (h : stp nL lv mc ms rt mt QQ f i len r pc ls st σ k) : WW g p l e s m args below meth cd nL lv mc ms (MQ below (OutS g QQ) args s mc ms (AF g)) pc ls st σ k := by
  cases i <;> first | exact hL.elim | (dsimp only [stp] at h) | skip
  case iconst n =>
    subst hL
    exact w_iconst C hd (hf _ _ _ _ _ h)
  case lconst n =>
    subst hL
    exact w_lconst C hd (hf _ _ _ _ _ h)
  case bipush n =>
    obtain ⟨rfl, hL⟩ := hL
    exact w_bipush C hL hd (hf _ _ _ _ _ h)
  case sipush n =>
    obtain ⟨rfl, hL⟩ := hL
    exact w_sipush C hL hd (hf _ _ _ _ _ h)
  case iload_n n =>
    subst hL
    obtain ⟨x, hx, h⟩ := lI_s h
    exact w_iload_n C hx hd (hf _ _ _ _ _ h)
  case iload n =>
    subst hL
    obtain ⟨x, hx, h⟩ := lI_s h
    exact w_iload C hx hd (hf _ _ _ _ _ h)
  case lload_n n =>
    subst hL
    obtain ⟨x, hx, h⟩ := lL_s h
    exact w_lload_n C hx hd (hf _ _ _ _ _ h)
  case lload n =>
    subst hL
    obtain ⟨x, hx, h⟩ := lL_s h
    exact w_lload C hx hd (hf _ _ _ _ _ h)
  case aload_n n =>
    subst hL
    obtain ⟨x, hx, h⟩ := lR_s h
    exact w_aload_n C hx hd (hf _ _ _ _ _ h)
  case aload n =>
    subst hL
    obtain ⟨x, hx, h⟩ := lR_s h
    exact w_aload C hx hd (hf _ _ _ _ _ h)
  case istore_n n =>
    subst hL
    obtain ⟨x, st, rfl, hn, hA⟩ := oI_s h
    exact w_istore_n C hn hd (hf _ _ _ _ _ hA)
  case istore n =>
    subst hL
    obtain ⟨x, st, rfl, hn, hA⟩ := oI_s h
    exact w_istore C hn hd (hf _ _ _ _ _ hA)
  case lstore_n n =>
    subst hL
    obtain ⟨x, st, rfl, hn, hA⟩ := oL_s h
    exact w_lstore_n C hn hd (hf _ _ _ _ _ hA)
  case lstore n =>
    subst hL
    obtain ⟨x, st, rfl, hn, hA⟩ := oL_s h
    exact w_lstore C hn hd (hf _ _ _ _ _ hA)
  case astore_n n =>
    subst hL
    obtain ⟨x, st, rfl, hn, hA⟩ := oR_s h
    exact w_astore_n C hn hd (hf _ _ _ _ _ hA)
  case astore n =>
    subst hL
    obtain ⟨x, st, rfl, hn, hA⟩ := oR_s h
    exact w_astore C hn hd (hf _ _ _ _ _ hA)
  case iinc n c =>
    subst hL
    obtain ⟨x, hx, hn, h⟩ := lI_s h
    exact w_iinc C hn hx hd (hf _ _ _ _ _ h)
  case iadd =>
    subst hL
    obtain ⟨y, st, rfl, hA⟩ := oI_s h
    obtain ⟨x, st, rfl, hB⟩ := oI_s hA
    exact w_iadd C hd (hf _ _ _ _ _ hB)
  case isub =>
    subst hL
    obtain ⟨y, st, rfl, hA⟩ := oI_s h
    obtain ⟨x, st, rfl, hB⟩ := oI_s hA
    exact w_isub C hd (hf _ _ _ _ _ hB)
  case imul =>
    subst hL
    obtain ⟨y, st, rfl, hA⟩ := oI_s h
    obtain ⟨x, st, rfl, hB⟩ := oI_s hA
    exact w_imul C hd (hf _ _ _ _ _ hB)
  case iand =>
    subst hL
    obtain ⟨y, st, rfl, hA⟩ := oI_s h
    obtain ⟨x, st, rfl, hB⟩ := oI_s hA
    exact w_iand C hd (hf _ _ _ _ _ hB)
  case ior =>
    subst hL
    obtain ⟨y, st, rfl, hA⟩ := oI_s h
    obtain ⟨x, st, rfl, hB⟩ := oI_s hA
    exact w_ior C hd (hf _ _ _ _ _ hB)
  case ixor =>
    subst hL
    obtain ⟨y, st, rfl, hA⟩ := oI_s h
    obtain ⟨x, st, rfl, hB⟩ := oI_s hA
    exact w_ixor C hd (hf _ _ _ _ _ hB)
  case ishl =>
    subst hL
    obtain ⟨y, st, rfl, hA⟩ := oI_s h
    obtain ⟨x, st, rfl, hB⟩ := oI_s hA
    exact w_ishl C hd (hf _ _ _ _ _ hB)
  case ishr =>
    subst hL
    obtain ⟨y, st, rfl, hA⟩ := oI_s h
    obtain ⟨x, st, rfl, hB⟩ := oI_s hA
    exact w_ishr C hd (hf _ _ _ _ _ hB)
  case iushr =>
    subst hL
    obtain ⟨y, st, rfl, hA⟩ := oI_s h
    obtain ⟨x, st, rfl, hB⟩ := oI_s hA
    exact w_iushr C hd (hf _ _ _ _ _ hB)
  case idiv =>
    subst hL
    obtain ⟨y, st, rfl, hA⟩ := oI_s h
    obtain ⟨x, st, rfl, hy, hB⟩ := oI_s hA
    exact w_idiv C hy hd (hf _ _ _ _ _ hB)
  case irem =>
    subst hL
    obtain ⟨y, st, rfl, hA⟩ := oI_s h
    obtain ⟨x, st, rfl, hy, hB⟩ := oI_s hA
    exact w_irem C hy hd (hf _ _ _ _ _ hB)
  case ineg =>
    subst hL
    obtain ⟨x, st, rfl, hA⟩ := oI_s h
    exact w_ineg C hd (hf _ _ _ _ _ hA)
  case i2c =>
    subst hL
    obtain ⟨x, st, rfl, hA⟩ := oI_s h
    exact w_i2c C hd (hf _ _ _ _ _ hA)
  case i2l =>
    subst hL
    obtain ⟨x, st, rfl, hA⟩ := oI_s h
    exact w_i2l C hd (hf _ _ _ _ _ hA)
  case l2i =>
    subst hL
    obtain ⟨x, st, rfl, hA⟩ := oL_s h
    exact w_l2i C hd (hf _ _ _ _ _ hA)
  case lneg =>
    subst hL
    obtain ⟨x, st, rfl, hA⟩ := oL_s h
    exact w_lneg C hd (hf _ _ _ _ _ hA)
  case ladd =>
    subst hL
    obtain ⟨y, st, rfl, hA⟩ := oL_s h
    obtain ⟨x, st, rfl, hB⟩ := oL_s hA
    exact w_ladd C hd (hf _ _ _ _ _ hB)
  case lsub =>
    subst hL
    obtain ⟨y, st, rfl, hA⟩ := oL_s h
    obtain ⟨x, st, rfl, hB⟩ := oL_s hA
    exact w_lsub C hd (hf _ _ _ _ _ hB)
  case lmul =>
    subst hL
    obtain ⟨y, st, rfl, hA⟩ := oL_s h
    obtain ⟨x, st, rfl, hB⟩ := oL_s hA
    exact w_lmul C hd (hf _ _ _ _ _ hB)
  case land =>
    subst hL
    obtain ⟨y, st, rfl, hA⟩ := oL_s h
    obtain ⟨x, st, rfl, hB⟩ := oL_s hA
    exact w_land C hd (hf _ _ _ _ _ hB)
  case lor =>
    subst hL
    obtain ⟨y, st, rfl, hA⟩ := oL_s h
    obtain ⟨x, st, rfl, hB⟩ := oL_s hA
    exact w_lor C hd (hf _ _ _ _ _ hB)
  case lxor =>
    subst hL
    obtain ⟨y, st, rfl, hA⟩ := oL_s h
    obtain ⟨x, st, rfl, hB⟩ := oL_s hA
    exact w_lxor C hd (hf _ _ _ _ _ hB)
  case lcmp =>
    subst hL
    obtain ⟨y, st, rfl, hA⟩ := oL_s h
    obtain ⟨x, st, rfl, hB⟩ := oL_s hA
    exact w_lcmp C hd (hf _ _ _ _ _ hB)
  case lshl =>
    subst hL
    obtain ⟨y, st, rfl, hA⟩ := oI_s h
    obtain ⟨x, st, rfl, hB⟩ := oL_s hA
    exact w_lshl C hd (hf _ _ _ _ _ hB)
  case lushr =>
    subst hL
    obtain ⟨y, st, rfl, hA⟩ := oI_s h
    obtain ⟨x, st, rfl, hB⟩ := oL_s hA
    exact w_lushr C hd (hf _ _ _ _ _ hB)
  case aconst_null =>
    subst hL
    exact w_null C hd (hf _ _ _ _ _ h)
  case dup =>
    subst hL
    obtain ⟨v, st, rfl, hv, hA⟩ := o1_s g h
    exact w_dup C hv hd (hf _ _ _ _ _ hA)
  case pop =>
    subst hL
    obtain ⟨v, st, rfl, hv, hA⟩ := o1_s g h
    exact w_pop C hv hd (hf _ _ _ _ _ hA)
  case dup_x1 =>
    subst hL
    obtain ⟨v, st, rfl, hv, hA⟩ := o1_s g h
    obtain ⟨u, st, rfl, hu, hB⟩ := o1_s g hA
    exact w_dup_x1 C hv hu hd (hf _ _ _ _ _ hB)
  case dup2 =>
    subst hL
    obtain ⟨v, st, rfl, hv, hA⟩ := o1_s g h
    obtain ⟨u, st, rfl, hu, hB⟩ := o1_s g hA
    exact w_dup2 C hv hu hd (hf _ _ _ _ _ hB)
  case goto off =>
    obtain ⟨rfl, h0⟩ := hL
    exact w_goto C (tgt_ok h0) hd (hf _ _ _ _ _ h)
  case if_icmp c off =>
    obtain ⟨rfl, h0⟩ := hL
    obtain ⟨y, st, rfl, hA⟩ := oI_s h
    obtain ⟨x, st, rfl, h1, h2⟩ := oI_s hA
    exact w_icmp C (tgt_ok h0) hd (fun z => hf _ _ _ _ _ (h1 z)) (fun z => hf _ _ _ _ _ (h2 z))
  case ifCond c off =>
    obtain ⟨rfl, h0⟩ := hL
    obtain ⟨x, st, rfl, h1, h2⟩ := oI_s h
    exact w_if C (tgt_ok h0) hd (fun z => hf _ _ _ _ _ (h1 z)) (fun z => hf _ _ _ _ _ (h2 z))
  case if_acmp c off =>
    obtain ⟨rfl, h0⟩ := hL
    cases c
    · obtain ⟨y, st, rfl, hA⟩ := oR_s h
      obtain ⟨x, st, rfl, hp, h1, h2⟩ := oR_s hA
      exact w_acmp C (c := .eq) hp (tgt_ok h0) hd (fun z => hf _ _ _ _ _ (h1 z)) (fun z => hf _ _ _ _ _ (h2 z))
    · obtain ⟨y, st, rfl, hC⟩ := oR_s h
      obtain ⟨x, st, rfl, hp, h1, h2⟩ := oR_s hC
      exact w_acmp C (c := .ne) hp (tgt_ok h0) hd (fun z => hf _ _ _ _ _ (h1 z)) (fun z => hf _ _ _ _ _ (h2 (Classical.not_not.mp z)))
  case ifnull off =>
    obtain ⟨rfl, h0⟩ := hL
    obtain ⟨x, st, rfl, h1, h2⟩ := oR_s h
    exact w_ifnull C (tgt_ok h0) hd (fun z => hf _ _ _ _ _ (h1 z)) (fun z => hf _ _ _ _ _ (h2 z))
  case ifnonnull off =>
    obtain ⟨rfl, h0⟩ := hL
    obtain ⟨x, st, rfl, h1, h2⟩ := oR_s h
    exact w_ifnonnull C (tgt_ok h0) hd (fun z => hf _ _ _ _ _ (h1 z)) (fun z => hf _ _ _ _ _ (h2 z))
  case tableswitch d lo hi offs =>
    obtain ⟨h0, h1, hlen⟩ := hL
    obtain ⟨x, st, rfl, h2, h3⟩ := oI_s h
    intro H locs la a1 a2 a3 a4 a5
    show W p l e (rmOf lv mc ms) s m args below meth cd H locs k.1 k.2 _ (F0 m pc la (.int (c32 x) :: st.map (cv g)))
    by_cases hx : wI x < lo ∨ hi < wI x
    · exact lv_tableOut C.hx C.hb hd (by rw [c32_toInt]; exact hx) (tgt_ok h0) (hf _ _ _ _ _ (h2 hx) H locs la a1 a2 a3 a4 a5)
    · have hn : (wI x - lo).toNat < offs.toList.length := by omega
      obtain ⟨o, ho, ho2⟩ := swt_at h3 hn (by omega)
      refine lv_tableIn C.hx C.hb hd (by rw [c32_toInt]; omega) (by rw [c32_toInt]; omega) (off := o) ?_ (tgt_ok (h1 o (List.mem_of_getElem? ho))) (hf _ _ _ _ _ ho2 H locs la a1 a2 a3 a4 a5)
      rw [c32_toInt, ← Array.getElem?_toList]; exact ho
  case getfield ix =>
    obtain ⟨rfl, ci, j, hF, e1, e2, e3⟩ := hL
    obtain ⟨x, st, rfl, hk, hA⟩ := oR_s h
    rw [e1] at hk
    rw [e2, e3] at hA
    exact w_get C hF hk hd (hf _ _ _ _ _ hA)
  case putfield ix =>
    obtain ⟨rfl, ci, j, hFl, e1, e2, e3, hfin⟩ := hL
    have hfin : (cT ci j).2.2.2 = false ∨ ((cT ci j).2.2.2 = true ∧ meth.name = "<init>" ∧ (cT ci j).1 = own) := hfin.imp_right (fun z => ⟨z.1, hini z.2.1, z.2.2⟩)
    obtain ⟨κ, fd, tc, pl⟩ := r
    have e1 : κ = ci + 1 := e1
    have e2 : fd = (ci + 1) * 100 + j := e2
    subst e1; subst e2
    match tc, e3, h with
    | 0, e3, h =>
      obtain ⟨v, st, rfl, hA⟩ := oI_s h
      obtain ⟨x, st, rfl, hk, hB⟩ := oR_s hA
      exact w_put C hFl (v := vi v) hk (by rw [show cty ci j = .int from e3]; trivial) hfin hd (hf _ _ _ _ _ hB)
    | 1, e3, h =>
      obtain ⟨v, st, rfl, hC⟩ := oL_s h
      obtain ⟨x, st, rfl, hk, hD⟩ := oR_s hC
      exact w_put C hFl (v := vl v) hk (by rw [show cty ci j = .long from e3]; trivial) hfin hd (hf _ _ _ _ _ hD)
    | 2, e3, h =>
      obtain ⟨v, st, rfl, hE⟩ := oR_s h
      obtain ⟨x, st, rfl, hk, hF⟩ := oR_s hE
      have e3 : tcd (cty ci j) = 2 := e3
      refine w_put C hFl (v := vr v) hk ?_ hfin hd (hf _ _ _ _ _ hF)
      generalize cty ci j = t at e3
      cases t <;> first | trivial | cases e3
    | n + 3, e3, h =>
      obtain ⟨v, st, rfl, hG⟩ := oI_s h
      obtain ⟨x, st, rfl, hk, hb, hH⟩ := oR_s hG
      exact w_put C hFl (v := vi v) hk (by rw [show cty ci j = .boolean from e3]; exact hb) hfin hd (hf _ _ _ _ _ hH)
  case iaload =>
    subst hL
    obtain ⟨j, st, rfl, hA⟩ := oI_s h
    obtain ⟨x, st, rfl, hk, hj, hB⟩ := oR_s hA
    exact w_iald C hk hj hd (hf _ _ _ _ _ hB)
  case laload =>
    subst hL
    obtain ⟨j, st, rfl, hA⟩ := oI_s h
    obtain ⟨x, st, rfl, hk, hj, hB⟩ := oR_s hA
    exact w_lald C hk hj hd (hf _ _ _ _ _ hB)
  case caload =>
    subst hL
    obtain ⟨j, st, rfl, hA⟩ := oI_s h
    obtain ⟨x, st, rfl, hk, hj, hB⟩ := oR_s hA
    exact w_cald C hk hj hd (hf _ _ _ _ _ hB)
  case baload =>
    subst hL
    obtain ⟨j, st, rfl, hA⟩ := oI_s h
    obtain ⟨x, st, rfl, hk, hj, hB⟩ := oR_s hA
    rcases hk with hk | hk
    · exact w_zald C hk hj hd (hf _ _ _ _ _ hB)
    · exact w_bald C hk hj hd (hf _ _ _ _ _ hB)
  case aaload =>
    subst hL
    obtain ⟨j, st, rfl, hA⟩ := oI_s h
    obtain ⟨x, st, rfl, hk, hj, hB⟩ := oR_s hA
    rcases hk with hk | hk | hk
    · exact w_aald C (Or.inl hk) hj hd (hf _ _ _ _ _ hB)
    · exact w_aald C (Or.inr hk) hj hd (hf _ _ _ _ _ hB)
    · exact w_aaldJ C hk hj hd (hf _ _ _ _ _ hB)
  case iastore =>
    subst hL
    obtain ⟨v, st, rfl, hA⟩ := oI_s h
    obtain ⟨j, st, rfl, hB⟩ := oI_s hA
    obtain ⟨x, st, rfl, hk, hj, hC⟩ := oR_s hB
    exact w_iast C hk hj hd (hf _ _ _ _ _ hC)
  case lastore =>
    subst hL
    obtain ⟨v, st, rfl, hA⟩ := oL_s h
    obtain ⟨j, st, rfl, hB⟩ := oI_s hA
    obtain ⟨x, st, rfl, hk, hj, hC⟩ := oR_s hB
    exact w_last C hk hj hd (hf _ _ _ _ _ hC)
  case bastore =>
    subst hL
    obtain ⟨v, st, rfl, hA⟩ := oI_s h
    obtain ⟨j, st, rfl, hB⟩ := oI_s hA
    obtain ⟨x, st, rfl, hk, hj, hv, hC⟩ := oR_s hB
    exact w_zast C hk hj hv hd (hf _ _ _ _ _ hC)
  case castore =>
    subst hL
    obtain ⟨v, st, rfl, hA⟩ := oI_s h
    obtain ⟨j, st, rfl, hB⟩ := oI_s hA
    obtain ⟨x, st, rfl, hk, hj, hv, hC⟩ := oR_s hB
    exact w_cast C hk hj hv hd (hf _ _ _ _ _ hC)
  case arraylength =>
    subst hL
    obtain ⟨x, st, rfl, hk, hA⟩ := oR_s h
    exact w_alen C hk hd (hf _ _ _ _ _ hA)
  case new ix =>
    obtain ⟨rfl, ci, hci, e1, e2, l1, l2, l3⟩ := hL
    obtain ⟨⟨c1, c2⟩, h⟩ := h
    rw [e1, e2] at h
    rw [e2] at c2
    exact w_new C hci l1 l2 l3 c1 c2 hd (hf _ _ _ _ _ h)
  case newarray t =>
    obtain ⟨rfl, e1, l1, l2⟩ := hL
    obtain ⟨n, st, rfl, hn, ⟨c1, c2⟩, hA⟩ := oI_s h
    rw [e1] at hA
    exact w_newa C l1 l2 hn c1 c2 hd (hf _ _ _ _ _ hA)
  case checkcast ix =>
    obtain ⟨rfl, ci, hci, e1, l1⟩ := hL
    obtain ⟨x, st, rfl, hk, hA⟩ := oR_s h
    rw [e1] at hk
    exact w_chk C hci l1 hk hd (hf _ _ _ _ _ hA)
  case ldc ix =>
    obtain ⟨rfl, hL⟩ := hL
    obtain ⟨c, r2, r3, z⟩ := r
    match c, hL, h with
    | 1, hL, h => exact w_ldc C hL hd (hf _ _ _ _ _ h)
    | 2, hL, h =>
      obtain ⟨tx, n, h0, h1, h2⟩ := hL
      have h2 : z = (n : Int) := h2
      subst h2
      exact w_ldcS C h0 h1 hd (hf _ _ _ _ _ h)
    | 0, hL, h => exact cl_sound C hm hf (key := 8 * ix + 4) (len := 2) (by unfold lenOf; rw [show (8 * ix + 4) % 8 = 4 by omega]; rfl) (by unfold instrOf; rw [show (8 * ix + 4) % 8 = 4 by omega, show (8 * ix + 4) / 8 = ix by omega]; exact hd) h
    | n + 3, hL, h => exact cl_sound C hm hf (key := 8 * ix + 4) (len := 2) (by unfold lenOf; rw [show (8 * ix + 4) % 8 = 4 by omega]; rfl) (by unfold instrOf; rw [show (8 * ix + 4) % 8 = 4 by omega, show (8 * ix + 4) / 8 = ix by omega]; exact hd) h
  case ldc_w ix =>
    obtain ⟨rfl, hL⟩ := hL
    exact w_ldcw C hL hd (hf _ _ _ _ _ h)
  case ldc2_w ix =>
    obtain ⟨rfl, hL⟩ := hL
    exact w_ldc2 C hL hd (hf _ _ _ _ _ h)
  case invokevirtual ix =>
    subst hL
    exact cl_sound C hm hf (key := 8 * ix) (len := 3) (by unfold lenOf; rw [show (8 * ix) % 8 = 0 by omega]; rfl) (by unfold instrOf; rw [show (8 * ix) % 8 = 0 by omega, show (8 * ix) / 8 = ix by omega]; exact hd) h
  case invokestatic ix =>
    subst hL
    exact cl_sound C hm hf (key := 8 * ix + 1) (len := 3) (by unfold lenOf; rw [show (8 * ix + 1) % 8 = 1 by omega]; rfl) (by unfold instrOf; rw [show (8 * ix + 1) % 8 = 1 by omega, show (8 * ix + 1) / 8 = ix by omega]; exact hd) h
  case invokespecial ix =>
    subst hL
    exact cl_sound C hm hf (key := 8 * ix + 2) (len := 3) (by unfold lenOf; rw [show (8 * ix + 2) % 8 = 2 by omega]; rfl) (by unfold instrOf; rw [show (8 * ix + 2) % 8 = 2 by omega, show (8 * ix + 2) / 8 = ix by omega]; exact hd) h
  case getstatic ix =>
    subst hL
    exact cl_sound C hm hf (key := 8 * ix + 3) (len := 3) (by unfold lenOf; rw [show (8 * ix + 3) % 8 = 3 by omega]; rfl) (by unfold instrOf; rw [show (8 * ix + 3) % 8 = 3 by omega, show (8 * ix + 3) / 8 = ix by omega]; exact hd) h
  case anewarray ix =>
    subst hL
    exact cl_sound C hm hf (key := 8 * ix + 5) (len := 3) (by unfold lenOf; rw [show (8 * ix + 5) % 8 = 5 by omega]; rfl) (by unfold instrOf; rw [show (8 * ix + 5) % 8 = 5 by omega, show (8 * ix + 5) / 8 = ix by omega]; exact hd) h
  case aastore =>
    subst hL
    exact cl_sound C hm hf (key := 6) (len := 1) rfl hd h
  case ireturn =>
    subst hL
    obtain ⟨x, st, rfl, rfl, hx, hA⟩ := oI_s h
    refine w_ireturn C ?_ hA hd
    match rt, hrt, hx with
    | 1, hrt, hx => rw [show ret = some .int from hrt]; trivial
    | 2, hrt, hx => rw [show ret = some .boolean from hrt]; exact hx
    | 3, hrt, hx => rw [show ret = some .char from hrt]; exact hx
  case lreturn =>
    subst hL
    obtain ⟨x, st, rfl, rfl, rfl, hA⟩ := oL_s h
    exact w_lreturn C (by rw [show ret = some .long from hrt]; trivial) hA hd
  case areturn =>
    subst hL
    obtain ⟨x, st, rfl, rfl, rfl, hA⟩ := oR_s h
    refine w_areturn C ?_ hA hd
    rcases (show (∃ n, ret = some (.object n)) ∨ ∃ n, ret = some (.array n) from hrt) with ⟨n, rfl⟩ | ⟨n, rfl⟩ <;> trivial
  case return_ =>
    subst hL
    obtain ⟨rfl, rfl, h⟩ := h
    exact w_return C (by rw [show ret = none from hrt]; trivial) h hd
def TOK (own : String) (ini : Bool) (cc : ByteArray) (T : Tab) : Prop := ∀ q ∈ T, decode cc q.1 = .ok (q.2.1, q.2.2.1) ∧ LOK own ini q.1 q.2.1 q.2.2.1 q.2.2.2
theorem ex_sound (C : MC g p s m args meth cd own cc nL ret) {mt : List (Nat × Mt)} (hm : MOK own mt) {ini : Bool} (hini : ini = true → meth.name = "<init>") (hrt : rtc ret rt) {T : Tab} (hT : TOK own ini cc T) {ct : Nat → Bool} {K : Kt} (hK : ∀ pc ls st σ k, K pc ls st σ k → WW g p l e s m args below meth cd nL lv mc ms (MQ below (OutS g QQ) args s mc ms (AF g)) pc ls st σ k) :
    ∀ (n pc : Nat) (ls : List (Option AV)) (st : List AV) (σ : Hp) (k : Nat × Nat), ex nL lv mc ms rt T mt ct K QQ n pc ls st σ k → WW g p l e s m args below meth cd nL lv mc ms (MQ below (OutS g QQ) args s mc ms (AF g)) pc ls st σ k := by
  intro n
  induction n with
  | zero => intro pc ls st σ k h; exact h.elim
  | succ n ih =>
    intro pc ls st σ k h
    unfold ex at h
    cases hq : T.lookup pc with
    | none => rw [hq] at h; exact h.elim
    | some q =>
      obtain ⟨i, len, r⟩ := q
      rw [hq] at h
      obtain ⟨hd, hL⟩ := hT _ (lookup_mem hq)
      refine stp_sound C hm hini hrt (f := _) (fun pc' ls' st' σ' k' h' => ?_) hd hL h
      cases hc : ct pc' with
      | true => rw [hc] at h'; exact hK _ _ _ _ _ h'
      | false => rw [hc] at h'; exact ih _ _ _ _ _ h'
end SND


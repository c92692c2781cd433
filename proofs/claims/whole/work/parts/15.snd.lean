/-! the evaluator is sound -/
def instrOf (key : Nat) : Instr := match key % 8 with
  | 0 => .invokevirtual (key / 8)
  | 1 => .invokestatic (key / 8)
  | 2 => .invokespecial (key / 8)
  | 3 => .getstatic (key / 8)
  | 4 => .ldc (key / 8)
  | 5 => .anewarray (key / 8)
  | _ => .aastore
def lenOf (key : Nat) : Nat := match key % 8 with
  | 4 => 2
  | 6 => 1
  | _ => 3
def MOK (own : String) (mt : List (Nat × Mt)) : Prop := ∀ q ∈ mt, Row own (instrOf q.1) (lenOf q.1) q.2.1 q.2.2.1 q.2.2.2.1 q.2.2.2.2.1 q.2.2.2.2.2
theorem lookup_mem {α β : Type} [BEq α] [LawfulBEq α] {l : List (α × β)} {a : α} {b : β} (h : l.lookup a = some b) : (a, b) ∈ l := by
  induction l with
  | nil => cases h
  | cons x l ih =>
    obtain ⟨a2, b2⟩ := x
    rw [List.lookup_cons] at h
    cases hq : (a == a2) with
    | true => rw [hq] at h; cases h; rw [LawfulBEq.eq_of_beq hq]; exact List.mem_cons_self
    | false => rw [hq] at h; exact List.mem_cons_of_mem _ (ih h)
/-- what a row of the table must say -/
def LOK (own : String) (ini : Bool) (pc : Nat) (i : Instr) (len : Nat) (r : Nat × Nat × Nat × Int) : Prop := match i with
  | .iconst _ | .lconst _ | .iload_n _ | .lload_n _ | .aload_n _ | .istore_n _ | .lstore_n _ | .astore_n _ | .iadd | .isub | .imul | .idiv | .irem | .ineg | .iand | .ior | .ixor | .ishl | .ishr | .iushr | .i2c | .i2l | .l2i | .ladd | .lsub | .lmul | .lneg | .land | .lor | .lxor | .lshl | .lushr | .lcmp | .aconst_null | .dup | .pop | .dup_x1 | .dup2 | .iaload | .laload | .baload | .caload | .aaload | .iastore | .lastore | .bastore | .castore | .arraylength | .ireturn | .lreturn | .areturn | .return_ | .aastore => len = 1
  | .iload _ | .lload _ | .aload _ | .istore _ | .lstore _ | .astore _ => len = 2
  | .bipush n => len = 2 ∧ -128 ≤ n ∧ n < 128
  | .sipush n => len = 3 ∧ -32768 ≤ n ∧ n < 32768
  | .iinc _ _ | .invokevirtual _ | .invokestatic _ | .invokespecial _ | .getstatic _ | .anewarray _ => len = 3
  | .goto off | .if_icmp _ off | .ifCond _ off | .if_acmp _ off | .ifnull off | .ifnonnull off => len = 3 ∧ 0 ≤ (pc : Int) + off
  | .tableswitch d lo hi offs => 0 ≤ (pc : Int) + d ∧ (∀ o ∈ offs.toList, 0 ≤ (pc : Int) + o) ∧ offs.toList.length = (hi - lo + 1).toNat
  | .getfield ix => len = 3 ∧ ∃ ci j, FLk own ix ci j ∧ r.1 = ci + 1 ∧ r.2.1 = (ci + 1) * 100 + j ∧ r.2.2.1 = tcd (cty ci j)
  | .putfield ix => len = 3 ∧ ∃ ci j, FLk own ix ci j ∧ r.1 = ci + 1 ∧ r.2.1 = (ci + 1) * 100 + j ∧ (match r.2.2.1 with | 0 => cty ci j = .int | 1 => cty ci j = .long | 2 => tcd (cty ci j) = 2 | _ => cty ci j = .boolean) ∧ ((cT ci j).2.2.2 = false ∨ ((cT ci j).2.2.2 = true ∧ ini = true ∧ (cT ci j).1 = own))
  | .new ix => len = 3 ∧ ∃ ci, ci < 14 ∧ r.1 = ci + 1 ∧ r.2.1 = cN ci ∧ Cond.classLink own ix (cR ci) ∈ TBL ∧ Cond.instantiable (cR ci) (cN ci) ∈ TBL ∧ Cond.initialized (cR ci) ∈ TBL
  | .newarray t => len = 2 ∧ r.1 = nkd t ∧ nkd t ≠ 0 ∧ Cond.arrayClass (newarray.typeOf t) ∈ TBL
  | .checkcast ix => len = 3 ∧ ∃ ci, ci < 14 ∧ r.1 = ci + 1 ∧ Cond.classLink own ix (cR ci) ∈ TBL
  | .ldc ix => len = 2 ∧ (match r.1 with | 1 => Cond.constant own ix (c32 r.2.2.2) ∈ TBL | 2 => ∃ (tx : String) (n : Nat), 0 < n ∧ (own, ix, tx, n) ∈ STRS ∧ r.2.2.2 = n | _ => True)
  | .ldc_w ix => len = 3 ∧ Cond.constant own ix (c32 r.2.2.2) ∈ TBL
  | .ldc2_w ix => len = 3 ∧ Cond.constantLong own ix (c64 (BitVec.ofInt 64 r.2.2.2)) ∈ TBL
  | _ => False
theorem oI_s {st : List AV} {f : Int → List AV → Prop} (h : oI st f) : ∃ x r, st = vi x :: r ∧ f x r := by
  rcases st with _ | ⟨x | x | x, r⟩
  · exact h.elim
  · exact ⟨x, r, rfl, h⟩
  · exact h.elim
  · exact h.elim
theorem oL_s {st : List AV} {f : BitVec 64 → List AV → Prop} (h : oL st f) : ∃ x r, st = vl x :: r ∧ f x r := by
  rcases st with _ | ⟨x | x | x, r⟩
  · exact h.elim
  · exact h.elim
  · exact ⟨x, r, rfl, h⟩
  · exact h.elim
theorem oR_s {st : List AV} {f : Int → List AV → Prop} (h : oR st f) : ∃ x r, st = vr x :: r ∧ f x r := by
  rcases st with _ | ⟨x | x | x, r⟩
  · exact h.elim
  · exact h.elim
  · exact h.elim
  · exact ⟨x, r, rfl, h⟩
theorem o1_s (g : GG) {st : List AV} {f : AV → List AV → Prop} (h : o1 st f) : ∃ v r, st = v :: r ∧ (cv g v).category = 1 ∧ f v r := by
  rcases st with _ | ⟨x | x | x, r⟩
  · exact h.elim
  · exact ⟨_, r, rfl, by rw [cv_cat], h⟩
  · exact h.elim
  · exact ⟨_, r, rfl, by rw [cv_cat], h⟩
theorem lI_s {ls : List (Option AV)} {i : Nat} {f : Int → Prop} (h : lI ls i f) : ∃ x, ls[i]? = some (some (vi x)) ∧ f x := by
  unfold lI at h
  split at h
  · rename_i x hx; exact ⟨x, hx, h⟩
  · exact h.elim
theorem lL_s {ls : List (Option AV)} {i : Nat} {f : BitVec 64 → Prop} (h : lL ls i f) : ∃ x, ls[i]? = some (some (vl x)) ∧ f x := by
  unfold lL at h
  split at h
  · rename_i x hx; exact ⟨x, hx, h⟩
  · exact h.elim
theorem lR_s {ls : List (Option AV)} {i : Nat} {f : Int → Prop} (h : lR ls i f) : ∃ x, ls[i]? = some (some (vr x)) ∧ f x := by
  unfold lR at h
  split at h
  · rename_i x hx; exact ⟨x, hx, h⟩
  · exact h.elim
theorem popN_s {n : Nat} : ∀ {st acc : List AV} {f : List AV → List AV → Prop}, popN n st acc f → ∃ a r, st = a ++ r ∧ a.length = n ∧ f (a.reverse ++ acc) r := by
  induction n with
  | zero => intro st acc f h; exact ⟨[], st, rfl, rfl, h⟩
  | succ n ih =>
    intro st acc f h
    rcases st with _ | ⟨v, st⟩
    · exact h.elim
    · obtain ⟨a, r, e1, e2, e3⟩ := ih (st := st) (acc := v :: acc) h
      exact ⟨v :: a, r, by rw [e1]; rfl, by rw [List.length_cons, e2], by rw [List.reverse_cons, List.append_assoc]; exact e3⟩
def rtc (ret : Option FieldType) (rt : Nat) : Prop := match rt with
  | 0 => ret = none
  | 1 => ret = some .int
  | 2 => ret = some .boolean
  | 3 => ret = some .char
  | 4 => ret = some .long
  | _ => (∃ n, ret = some (.object n)) ∨ ∃ n, ret = some (.array n)
section SND
variable {g : GG} {p : Program} {l : Launch} {e : Env} {s : State} {m : MethodId} {args : Array Value} {below : List Frame} {meth : Method} {cd : Code} {nL lv mc ms rt : Nat}
variable {own : String} {cc : ByteArray} {ret : Option FieldType} {pc : Nat} {ls : List (Option AV)} {st : List AV} {σ : Hp} {k : Nat × Nat} {QQ : Option AV → Hp → Prop}
theorem cl_sound (C : MC g p s m args meth cd own cc nL ret) {mt : List (Nat × Mt)} (hm : MOK own mt) {f : Kt} (hf : ∀ pc ls st σ k, f pc ls st σ k → WW g p l e s m args below meth cd nL lv mc ms (MQ below (OutS g QQ) args s mc ms (AF g)) pc ls st σ k) {key len : Nat} (hl : lenOf key = len) (hd : decode cc pc = .ok (instrOf key, len))
    (h : match mt.lookup key with
      | some (n, a, b, lvc, sp) => popN n st [] fun av rest => (catS rest ≤ 8 ∧ lvc < lv ∧ k.1 + a ≤ mc ∧ k.2 + b ≤ ms) ∧ sp av σ fun v σ' => f (pc + len) ls (v.toList ++ rest) σ' (k.1 + a, k.2 + b)
      | none => False) : WW g p l e s m args below meth cd nL lv mc ms (MQ below (OutS g QQ) args s mc ms (AF g)) pc ls st σ k := by
  cases hq : mt.lookup key with
  | none => rw [hq] at h; exact h.elim
  | some q =>
    obtain ⟨n, a, b, lvc, sp⟩ := q
    rw [hq] at h
    obtain ⟨av, r, rfl, hn, ⟨c1, c2, c3, c4⟩, hsp⟩ := popN_s h
    have hrow := hm _ (lookup_mem hq)
    have := hrow g p l e s m args below meth cd nL lv mc ms (MQ below (OutS g QQ) args s mc ms (AF g)) cc ret pc ls av.reverse r σ k _ C (by rw [List.length_reverse]; exact hn) c1 c2 c3 c4 (by rw [show lenOf (key, n, a, b, lvc, sp).1 = len from hl]; exact hd) (by rw [List.append_nil] at hsp; exact hsp) (fun v σ' hv => by rw [show lenOf (key, n, a, b, lvc, sp).1 = len from hl]; exact hf _ _ _ _ _ hv)
    rw [List.reverse_reverse] at this
    exact this
end SND

/-! a method as a whole: its data, its run -/
/-- name, code, locals, answer, level, cells, slots, answer's code, constructor?, table, callees -/
abbrev Md : Type := MethodName × ByteArray × Nat × Option FieldType × Nat × Nat × Nat × Nat × Bool × Tab × List (Nat × Mt)
def GoX (y : MethodName) (cc : ByteArray) (nL : Nat) (ret : Option FieldType) (lv mc ms : Nat) (QQ : Option AV → Hp → Prop) (pc : Nat) (ls : List (Option AV)) (st : List AV) (σ : Hp) (k : Nat × Nat) : Prop :=
  ∀ (g : GG) (p : Program) (l : Launch) (e : Env) (s : State) (m : MethodId) (args : Array Value) (below : List Frame) (meth : Method) (cd : Code), MC g p s m args meth cd y.cls cc nL ret → meth.name = y.name →
    WW g p l e s m args below meth cd nL lv mc ms (MQ below (OutS g QQ) args s mc ms (AF g)) pc ls st σ k
def GoD (M : Md) (QQ : Option AV → Hp → Prop) (pc : Nat) (ls : List (Option AV)) (st : List AV) (σ : Hp) (k : Nat × Nat) : Prop :=
  GoX M.1 M.2.1 M.2.2.1 M.2.2.2.1 M.2.2.2.2.1 M.2.2.2.2.2.1 M.2.2.2.2.2.2.1 QQ pc ls st σ k
/-- the same, sealed: nothing unfolds it by itself -/
theorem Go_is : ∃ f : Md → (Option AV → Hp → Prop) → Nat → List (Option AV) → List AV → Hp → Nat × Nat → Prop, f = GoD := ⟨_, rfl⟩
noncomputable def Go : Md → (Option AV → Hp → Prop) → Nat → List (Option AV) → List AV → Hp → Nat × Nat → Prop := Classical.choose Go_is
theorem Go_eq : Go = GoD := Classical.choose_spec Go_is
/-- what holds of a method's data -/
def MMOK (M : Md) : Prop := plainFor M.1 = true ∧ TOK M.1.cls M.2.2.2.2.2.2.2.2.1 M.2.1 M.2.2.2.2.2.2.2.2.2.1 ∧ MOK M.1.cls M.2.2.2.2.2.2.2.2.2.2 ∧ rtc M.2.2.2.1 M.2.2.2.2.2.2.2.1 ∧ (M.2.2.2.2.2.2.2.2.1 = true → M.1.name = "<init>")
theorem Go.ex {M : Md} (hM : MMOK M) {QQ : Option AV → Hp → Prop} {ct : Nat → Bool} {n pc : Nat} {ls : List (Option AV)} {st : List AV} {σ : Hp} {k : Nat × Nat} (h : Jvm.Pilot.CAlarmBoxesLaw_law_r7510_e02c0f.ex M.2.2.1 M.2.2.2.2.1 M.2.2.2.2.2.1 M.2.2.2.2.2.2.1 M.2.2.2.2.2.2.2.1 M.2.2.2.2.2.2.2.2.2.1 M.2.2.2.2.2.2.2.2.2.2 ct (Go M QQ) QQ n pc ls st σ k) : Go M QQ pc ls st σ k := by
  rw [Go_eq] at h ⊢
  exact fun g p l e s m args below meth cd C hn => ex_sound C hM.2.2.1 (fun hi => hn.trans (hM.2.2.2.2 hi)) hM.2.2.2.1 hM.2.1 (fun _ _ _ _ _ hk => hk g p l e s m args below meth cd C hn) n pc ls st σ k h
theorem Ct.go {M : Md} (hM : MMOK M) {sp : Sp} (body : ∀ av σ QQ, sp av σ QQ → (argL1 av).length ≤ M.2.2.1 ∧ Go M QQ 0 (argL M.2.2.1 av) [] σ (0, 0)) : Ct M.1 M.2.1 M.2.2.1 M.2.2.2.1 M.2.2.2.2.1 M.2.2.2.2.2.1 M.2.2.2.2.2.2.1 sp :=
  Ct.of hM.1 fun g p l e s m args below meth cd av σ QQ C hn hsp => ⟨(body av σ QQ hsp).1, by
    have h := (body av σ QQ hsp).2
    rw [Go_eq] at h
    exact h g p l e s m args below meth cd C hn⟩
/-- the evaluator, sealed -/
theorem exS_is : ∃ f : Nat → Nat → Nat → Nat → Nat → Tab → List (Nat × Mt) → (Nat → Bool) → Kt → (Option AV → Hp → Prop) → Nat → Kt, f = Jvm.Pilot.CAlarmBoxesLaw_law_r7510_e02c0f.ex := ⟨_, rfl⟩
noncomputable def exS : Nat → Nat → Nat → Nat → Nat → Tab → List (Nat × Mt) → (Nat → Bool) → Kt → (Option AV → Hp → Prop) → Nat → Kt := Classical.choose exS_is
theorem exS_eq : exS = Jvm.Pilot.CAlarmBoxesLaw_law_r7510_e02c0f.ex := Classical.choose_spec exS_is
noncomputable def exkS (nL lv mc ms rt : Nat) (T : Tab) (mt : List (Nat × Mt)) (ct : Nat → Bool) (K : Kt) (R : Option AV → Hp → Prop) (n : Nat) : Kt := fun pc ls st σ k => match ct pc with
  | true => K pc ls st σ k
  | false => exS nL lv mc ms rt T mt ct K R n pc ls st σ k
theorem exS_step {nL lv mc ms rt : Nat} {T : Tab} {mt : List (Nat × Mt)} {ct : Nat → Bool} {K : Kt} {R : Option AV → Hp → Prop} {n pc : Nat} {ls : List (Option AV)} {st : List AV} {σ : Hp} {k : Nat × Nat} :
    exS nL lv mc ms rt T mt ct K R (n + 1) pc ls st σ k = (match T.lookup pc with
      | none => False
      | some (i, len, r) => stp nL lv mc ms rt mt R (exkS nL lv mc ms rt T mt ct K R n) i len r pc ls st σ k) := by
  unfold exkS
  rw [exS_eq]
  rfl
theorem Go.exS {M : Md} (hM : MMOK M) {QQ : Option AV → Hp → Prop} {ct : Nat → Bool} {n pc : Nat} {ls : List (Option AV)} {st : List AV} {σ : Hp} {k : Nat × Nat} (h : Jvm.Pilot.CAlarmBoxesLaw_law_r7510_e02c0f.exS M.2.2.1 M.2.2.2.2.1 M.2.2.2.2.2.1 M.2.2.2.2.2.2.1 M.2.2.2.2.2.2.2.1 M.2.2.2.2.2.2.2.2.2.1 M.2.2.2.2.2.2.2.2.2.2 ct (Go M QQ) QQ n pc ls st σ k) : Go M QQ pc ls st σ k := by
  rw [exS_eq] at h
  exact Go.ex hM h
/-! a table, checked -/
def inT (w : Cond) : Bool := decide (w ∈ lw_tbl) && goodWord w
theorem inT_ok {w : Cond} (h : inT w = true) : w ∈ TBL := by
  unfold inT at h
  rw [Bool.and_eq_true, decide_eq_true_eq] at h
  exact List.mem_filter.mpr h
def inS (own : String) (ix : Nat) (z : Int) : Bool := STRS.any fun q => decide (q.1 = own) && decide (q.2.1 = ix) && decide (0 < q.2.2.2) && decide (z = (q.2.2.2 : Int))
theorem inS_ok {own : String} {ix : Nat} {z : Int} (h : inS own ix z = true) : ∃ (tx : String) (n : Nat), 0 < n ∧ (own, ix, tx, n) ∈ STRS ∧ z = n := by
  unfold inS at h
  obtain ⟨q, hq, h⟩ := List.any_eq_true.mp h
  simp only [Bool.and_eq_true, decide_eq_true_eq] at h
  obtain ⟨⟨⟨h1, h2⟩, h3⟩, h4⟩ := h
  exact ⟨q.2.2.1, q.2.2.2, h3, by rw [← h1, ← h2]; exact hq, h4⟩
def chk (own : String) (ini : Bool) (cc : ByteArray) (FT : List (Nat × Nat × Nat)) (pc : Nat) (i : Instr) (len : Nat) (r : Nat × Nat × Nat × Int) : Bool := decide (decode cc pc = .ok (i, len)) && match i with
  | .iconst _ | .lconst _ | .iload_n _ | .lload_n _ | .aload_n _ | .istore_n _ | .lstore_n _ | .astore_n _ | .iadd | .isub | .imul | .idiv | .irem | .ineg | .iand | .ior | .ixor | .ishl | .ishr | .iushr | .i2c | .i2l | .l2i | .ladd | .lsub | .lmul | .lneg | .land | .lor | .lxor | .lshl | .lushr | .lcmp | .aconst_null | .dup | .pop | .dup_x1 | .dup2 | .iaload | .laload | .baload | .caload | .aaload | .iastore | .lastore | .bastore | .castore | .arraylength | .ireturn | .lreturn | .areturn | .return_ | .aastore => decide (len = 1)
  | .iload _ | .lload _ | .aload _ | .istore _ | .lstore _ | .astore _ => decide (len = 2)
  | .bipush n => decide (len = 2 ∧ -128 ≤ n ∧ n < 128)
  | .sipush n => decide (len = 3 ∧ -32768 ≤ n ∧ n < 32768)
  | .iinc _ _ | .invokevirtual _ | .invokestatic _ | .invokespecial _ | .getstatic _ | .anewarray _ => decide (len = 3)
  | .goto off | .if_icmp _ off | .ifCond _ off | .if_acmp _ off | .ifnull off | .ifnonnull off => decide (len = 3 ∧ 0 ≤ (pc : Int) + off)
  | .tableswitch d lo hi offs => decide (0 ≤ (pc : Int) + d ∧ (∀ o ∈ offs.toList, 0 ≤ (pc : Int) + o) ∧ offs.toList.length = (hi - lo + 1).toNat)
  | .getfield ix => decide (len = 3 ∧ (ix, r.1 - 1, r.2.1 - r.1 * 100) ∈ FT ∧ 1 ≤ r.1 ∧ r.1 * 100 ≤ r.2.1 ∧ r.2.2.1 = tcd (cty (r.1 - 1) (r.2.1 - r.1 * 100)))
  | .putfield ix => decide (len = 3 ∧ (ix, r.1 - 1, r.2.1 - r.1 * 100) ∈ FT ∧ 1 ≤ r.1 ∧ r.1 * 100 ≤ r.2.1) && (match r.2.2.1 with | 0 => decide (cty (r.1 - 1) (r.2.1 - r.1 * 100) = .int) | 1 => decide (cty (r.1 - 1) (r.2.1 - r.1 * 100) = .long) | 2 => decide (tcd (cty (r.1 - 1) (r.2.1 - r.1 * 100)) = 2) | _ => decide (cty (r.1 - 1) (r.2.1 - r.1 * 100) = .boolean)) && (decide ((cT (r.1 - 1) (r.2.1 - r.1 * 100)).2.2.2 = false) || (decide ((cT (r.1 - 1) (r.2.1 - r.1 * 100)).2.2.2 = true) && ini && decide ((cT (r.1 - 1) (r.2.1 - r.1 * 100)).1 = own)))
  | .new ix => decide (len = 3 ∧ 1 ≤ r.1 ∧ r.1 ≤ 14 ∧ r.2.1 = cN (r.1 - 1)) && inT (Cond.classLink own ix (cR (r.1 - 1))) && inT (Cond.instantiable (cR (r.1 - 1)) (cN (r.1 - 1))) && inT (Cond.initialized (cR (r.1 - 1)))
  | .newarray t => decide (len = 2 ∧ r.1 = nkd t ∧ nkd t ≠ 0) && inT (Cond.arrayClass (newarray.typeOf t))
  | .checkcast ix => decide (len = 3 ∧ 1 ≤ r.1 ∧ r.1 ≤ 14) && inT (Cond.classLink own ix (cR (r.1 - 1)))
  | .ldc ix => decide (len = 2) && (match r.1 with | 1 => inT (Cond.constant own ix (c32 r.2.2.2)) | 2 => inS own ix r.2.2.2 | _ => true)
  | .ldc_w ix => decide (len = 3) && inT (Cond.constant own ix (c32 r.2.2.2))
  | .ldc2_w ix => decide (len = 3) && inT (Cond.constantLong own ix (c64 (BitVec.ofInt 64 r.2.2.2)))
  | _ => false
set_option maxRecDepth 4000 in
theorem chk_ok {own : String} {ini : Bool} {cc : ByteArray} {FT : List (Nat × Nat × Nat)} (hF : ∀ q ∈ FT, FLk own q.1 q.2.1 q.2.2) {pc : Nat} {i : Instr} {len : Nat} {r : Nat × Nat × Nat × Int} (h : chk own ini cc FT pc i len r = true) : decode cc pc = .ok (i, len) ∧ LOK own ini pc i len r := by
  unfold chk at h
  rw [Bool.and_eq_true, decide_eq_true_eq] at h
  obtain ⟨h00, h⟩ := h
  refine ⟨h00, ?_⟩
  cases i <;> dsimp only at h <;> first | cases h; done | (have h2 := of_decide_eq_true h; exact h2) | skip
  case getfield ix =>
    obtain ⟨h1, h2, h3, h4, h5⟩ := of_decide_eq_true h
    refine ⟨h1, r.1 - 1, r.2.1 - r.1 * 100, hF _ h2, by omega, ?_, h5⟩
    rw [show r.1 - 1 + 1 = r.1 by omega]; omega
  case putfield ix =>
    simp only [Bool.and_eq_true, Bool.or_eq_true] at h
    obtain ⟨⟨h0, ht⟩, hf⟩ := h
    obtain ⟨h1, h2, h3, h4⟩ := of_decide_eq_true h0
    refine ⟨h1, r.1 - 1, r.2.1 - r.1 * 100, hF _ h2, by omega, ?_, ?_, ?_⟩
    · rw [show r.1 - 1 + 1 = r.1 by omega]; omega
    · obtain ⟨κ, fd, tc, pl⟩ := r
      match tc, ht with
      | 0, ht => exact (of_decide_eq_true ht : cty (κ - 1) (fd - κ * 100) = .int)
      | 1, ht => exact (of_decide_eq_true ht : cty (κ - 1) (fd - κ * 100) = .long)
      | 2, ht => exact (of_decide_eq_true ht : tcd (cty (κ - 1) (fd - κ * 100)) = 2)
      | n + 3, ht => exact (of_decide_eq_true ht : cty (κ - 1) (fd - κ * 100) = .boolean)
    · rcases hf with hf | hf
      · exact Or.inl (of_decide_eq_true hf)
      · exact Or.inr ⟨of_decide_eq_true hf.1.1, hf.1.2, of_decide_eq_true hf.2⟩
  case new ix =>
    simp only [Bool.and_eq_true] at h
    obtain ⟨⟨⟨h0, a1⟩, a2⟩, a3⟩ := h
    obtain ⟨h1, h2, h3, h4⟩ := of_decide_eq_true h0
    exact ⟨h1, r.1 - 1, by omega, by omega, h4, inT_ok a1, inT_ok a2, inT_ok a3⟩
  case newarray t =>
    simp only [Bool.and_eq_true] at h
    obtain ⟨h1, h2, h3⟩ := of_decide_eq_true h.1
    exact ⟨h1, h2, h3, inT_ok h.2⟩
  case checkcast ix =>
    simp only [Bool.and_eq_true] at h
    obtain ⟨h1, h2, h3⟩ := of_decide_eq_true h.1
    exact ⟨h1, r.1 - 1, by omega, by omega, inT_ok h.2⟩
  case ldc ix =>
    rw [Bool.and_eq_true] at h
    refine ⟨of_decide_eq_true h.1, ?_⟩
    have h := h.2
    obtain ⟨κ, fd, tc, pl⟩ := r
    by_cases e1 : κ = 1
    · subst e1
      exact inT_ok h
    · by_cases e2 : κ = 2
      · subst e2
        have h2 : inS own ix pl = true := h
        have h3 := inS_ok h2
        generalize STRS = SS at h3 ⊢
        exact h3
      · dsimp only
        split
        · exact absurd rfl e1
        · exact absurd rfl e2
        · trivial
  case ldc_w ix =>
    simp only [Bool.and_eq_true] at h
    exact ⟨of_decide_eq_true h.1, inT_ok h.2⟩
  case ldc2_w ix =>
    simp only [Bool.and_eq_true] at h
    exact ⟨of_decide_eq_true h.1, inT_ok h.2⟩
def chkT (own : String) (ini : Bool) (cc : ByteArray) (FT : List (Nat × Nat × Nat)) (T : Tab) : Bool := T.all fun q => chk own ini cc FT q.1 q.2.1 q.2.2.1 q.2.2.2
theorem chkT_ok {own : String} {ini : Bool} {cc : ByteArray} {FT : List (Nat × Nat × Nat)} (hF : ∀ q ∈ FT, FLk own q.1 q.2.1 q.2.2) {T : Tab} (h : chkT own ini cc FT T = true) : TOK own ini cc T := fun q hq => chk_ok hF (List.all_eq_true.mp h q hq)
/-- field links, by their places in the tables -/
def chkF (own : String) (q : Nat × Nat × Nat × String × Nat) : Bool := decide (q.2.1 < 14 ∧ q.2.2.1 < cN q.2.1) && decide (lw_tbl[q.2.2.2.2]? = some (Cond.fieldLink own q.1 q.2.2.2.1 (cT q.2.1 q.2.2.1).2.1 (cT q.2.1 q.2.2.1).2.2.1)) && decide (q.2.2.2.1 = (cT q.2.1 q.2.2.1).1)
theorem chkF_ok {own : String} {q : Nat × Nat × Nat × String × Nat} (h : chkF own q = true) : FLk own q.1 q.2.1 q.2.2.1 := by
  unfold chkF at h
  simp only [Bool.and_eq_true] at h
  obtain ⟨⟨h1, h2⟩, h3⟩ := h
  obtain ⟨a, b⟩ := of_decide_eq_true h1
  exact ⟨a, b, q.2.2.2.1, TBL_in _ (of_decide_eq_true h2) rfl, Or.inl (of_decide_eq_true h3)⟩
theorem FT_ok {own : String} {L : List (Nat × Nat × Nat × String × Nat)} (h : L.all (chkF own) = true) : ∀ q ∈ L.map (fun z => (z.1, z.2.1, z.2.2.1)), FLk own q.1 q.2.1 q.2.2 := by
  intro q hq
  obtain ⟨z, hz, rfl⟩ := List.mem_map.mp hq
  exact chkF_ok (List.all_eq_true.mp h z hz)

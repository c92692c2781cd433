/-! the class: its parts are made: what lies where -/

def lk2 : List ((Nat × Int) × Int) → Nat → Int → Int → Int
  | [], _, _, z => z
  | x :: t, f, k, z => if f = x.1.1 ∧ k = x.1.2 then x.2 else lk2 t f k z
def lk3 : List ((Int × Int) × Int) → Int → Int → Int → Int
  | [], _, _, z => z
  | x :: t, r, j, z => if r = x.1.1 ∧ j = x.1.2 then x.2 else lk3 t r j z
/-- places made one behind another from 1 on: their kinds and lengths; fields written, elements written -/
def Ini (σ0 σ : Hp) (LL : List (Nat × Int)) (RR II : List ((Nat × Int) × Int)) (AA : List ((Int × Int) × Int)) : Prop := nx σ = 1 + (LL.length : Int) ∧ (∀ k, k < 1 → kd σ k = kd σ0 k ∧ ln σ k = ln σ0 k) ∧ (∀ (i : Nat) q, LL[i]? = some q → kd σ (1 + (i : Int)) = q.1 ∧ ln σ (1 + (i : Int)) = q.2) ∧ (∀ f k, fR σ f k = lk2 RR f k (fR σ0 f k)) ∧ (∀ f k, fI σ f k = lk2 II f k (fI σ0 f k)) ∧ (∀ r j, aR σ r j = lk3 AA r j (aR σ0 r j)) ∧ fL σ = fL σ0 ∧ aI σ = aI σ0 ∧ aL σ = aL σ0 ∧ fR σ 3000 0 = fR σ0 3000 0
section INI
variable {σ0 σ : Hp} {LL : List (Nat × Int)} {RR II : List ((Nat × Int) × Int)} {AA : List ((Int × Int) × Int)}
theorem Ini.ee (h : Ini σ0 σ LL RR II AA) : fR σ 3000 0 = fR σ0 3000 0 := h.2.2.2.2.2.2.2.2.2
theorem Ini.mk' {κ : Nat} {n : Int} (h : Ini σ0 σ LL RR II AA) : Ini σ0 (mk σ κ n) (LL ++ [(κ, n)]) RR II AA := by
  obtain ⟨h1, h2, h3, h4⟩ := h
  refine ⟨?_, fun k hk => ?_, fun i q hq => ?_, h4⟩
  · rw [nx_mk, List.length_append, List.length_singleton]
    omega
  · rw [kd_mk, ln_mk, if_neg (by omega), if_neg (by omega)]
    exact h2 k hk
  · rw [kd_mk, ln_mk]
    by_cases c : i < LL.length
    · rw [if_neg (by omega), if_neg (by omega)]
      rw [List.getElem?_append_left c] at hq
      exact h3 i q hq
    · have hi := (List.getElem?_eq_some_iff.mp hq).1
      rw [List.length_append, List.length_singleton] at hi
      have e : i = LL.length := by omega
      rw [List.getElem?_append_right (by omega), show i - LL.length = 0 by omega] at hq
      have hq : some (κ, n) = some q := hq
      rw [← Option.some.inj hq, if_pos (by omega), if_pos (by omega)]
      exact ⟨rfl, rfl⟩
theorem Ini.pR' {f : Nat} {k k' v v' : Int} (hf : ¬ f = 3000) (ek : k = k') (ev : v = v') (h : Ini σ0 σ LL RR II AA) : Ini σ0 (pR σ f k v) LL (((f, k'), v') :: RR) II AA := by
  rw [← ek, ← ev]
  obtain ⟨h1, h2, h3, h4, h5, h6, h7, h8, h9, h10⟩ := h
  refine ⟨h1, h2, h3, fun f9 k9 => ?_, h5, h6, h7, h8, h9, ?_⟩
  · rw [fR_pR, h4 f9 k9]
    rfl
  · rw [fR_pR, if_neg (fun z => hf z.1.symm)]
    exact h10
theorem Ini.pI' {f : Nat} {k k' v v' : Int} (ek : k = k') (ev : v = v') (h : Ini σ0 σ LL RR II AA) : Ini σ0 (pI σ f k v) LL RR (((f, k'), v') :: II) AA := by
  rw [← ek, ← ev]
  obtain ⟨h1, h2, h3, h4, h5, h6, h7, h8, h9, h10⟩ := h
  refine ⟨h1, h2, h3, h4, fun f9 k9 => ?_, h6, h7, h8, h9, h10⟩
  rw [fI_pI, h5 f9 k9]
  rfl
theorem Ini.qR' {r r' j j' v v' : Int} (er : r = r') (ej : j = j') (ev : v = v') (h : Ini σ0 σ LL RR II AA) : Ini σ0 (qR σ r j v) LL RR II (((r', j'), v') :: AA) := by
  rw [← er, ← ej, ← ev]
  obtain ⟨h1, h2, h3, h4, h5, h6, h7, h8, h9, h10⟩ := h
  refine ⟨h1, h2, h3, h4, h5, fun r9 j9 => ?_, h7, h8, h9, h10⟩
  rw [aR_qR, h6 r9 j9]
  rfl
end INI

def sp_X8_init : Sp := fun av σ Q => oR av fun this av => av = [] ∧ kd σ this = 9 ∧ (∃ (σ0 : Hp) (LL : List (Nat × Int)) (RR II : List ((Nat × Int) × Int)) (AA : List ((Int × Int) × Int)), Ini σ0 σ LL RR II AA ∧ ∀ σ9, Ini σ0 σ9 (LL ++ [(104, 1000)]) (((900, this), 1 + (LL.length : Int)) :: RR) (((901, this), 0) :: II) AA → Q none σ9)
theorem us_X8_init (this : Int) (σ : Hp) (Q : Option AV → Hp → Prop) : sp_X8_init [vr this] σ Q = (kd σ this = 9 ∧ (∃ (σ0 : Hp) (LL : List (Nat × Int)) (RR II : List ((Nat × Int) × Int)) (AA : List ((Int × Int) × Int)), Ini σ0 σ LL RR II AA ∧ ∀ σ9, Ini σ0 σ9 (LL ++ [(104, 1000)]) (((900, this), 1 + (LL.length : Int)) :: RR) (((901, this), 0) :: II) AA → Q none σ9)) := propext ⟨fun h => h.2, fun h => ⟨rfl, h⟩⟩
theorem el_X8_init {av : List AV} {σ : Hp} {Q : Option AV → Hp → Prop} (h : sp_X8_init av σ Q) : ∃ (this : Int), av = [vr this] ∧ (kd σ this = 9 ∧ (∃ (σ0 : Hp) (LL : List (Nat × Int)) (RR II : List ((Nat × Int) × Int)) (AA : List ((Int × Int) × Int)), Ini σ0 σ LL RR II AA ∧ ∀ σ9, Ini σ0 σ9 (LL ++ [(104, 1000)]) (((900, this), 1 + (LL.length : Int)) :: RR) (((901, this), 0) :: II) AA → Q none σ9)) := by
  obtain ⟨this, a0, rfl, h0⟩ := oR_s h
  obtain ⟨rfl, hz⟩ := h0
  exact ⟨this, rfl, hz⟩
theorem rc_X8_init : ∀ (av : List AV) (σ : Hp) (Q : Option AV → Hp → Prop), sp_X8_init av σ Q → ∃ r tl, av = vr r :: tl ∧ kd σ r = 8 + 1 := fun av σ Q h => by
  obtain ⟨this, rfl, hz, -⟩ := el_X8_init h
  exact ⟨this, _, rfl, hz⟩
theorem rcn_X8_init : ∀ (av : List AV) (σ : Hp) (Q : Option AV → Hp → Prop), sp_X8_init av σ Q → ∃ r tl, av = vr r :: tl ∧ kd σ r ≠ 0 := fun av σ Q h => by
  obtain ⟨r, tl, e, hz⟩ := rc_X8_init av σ Q h
  exact ⟨r, tl, e, by omega⟩

def tb_X8_init : Tab := [(0, .aload_n 0, 1, (0, 0, 0, 0)), (1, .invokespecial 3, 3, (0, 0, 0, 0)), (4, .aload_n 0, 1, (0, 0, 0, 0)), (5, .sipush 1000, 3, (0, 0, 0, 0)), (8, .newarray .char, 2, (104, 0, 0, 0)), (10, .putfield 9, 3, (9, 900, 2, 0)), (13, .aload_n 0, 1, (0, 0, 0, 0)), (14, .iconst 0, 1, (0, 0, 0, 0)), (15, .putfield 15, 3, (9, 901, 0, 0)), (18, .return_, 1, (0, 0, 0, 0))]
set_option maxRecDepth 100000 in
theorem tk_X8_init : TOK RX8 true cX8_init tb_X8_init := chkT_ok ft_X8 (by decide +kernel)
theorem rw_X8_26 : Row RX8 (.invokespecial 3) 3 1 0 0 0 spObj := row_obj (TBL_in 303 (by decide +kernel) rfl) (TBL_in 148 (by decide +kernel) rfl) (TBL_in 149 (by decide +kernel) rfl)
def mt_X8_init : List (Nat × Mt) := [(26, 1, 0, 0, 0, spObj)]
theorem em_X8_init : mt_X8_init.lookup 26 = some (1, 0, 0, 0, spObj) := rfl
theorem mk_X8_init : MOK RX8 mt_X8_init := by
  intro q hq
  simp only [mt_X8_init, List.mem_cons, List.not_mem_nil, or_false] at hq
  rcases hq with rfl
  · exact rw_X8_26
noncomputable def xe_X8_init (ct : Nat → Bool) (K : Kt) (R : Option AV → Hp → Prop) (n : Nat) : Kt := exS 1 1 1 1000 0 tb_X8_init mt_X8_init ct K R n
noncomputable def xk_X8_init (ct : Nat → Bool) (K : Kt) (R : Option AV → Hp → Prop) (n : Nat) : Kt := exkS 1 1 1 1000 0 tb_X8_init mt_X8_init ct K R n
theorem xt_X8_init {ct : Nat → Bool} {K : Kt} {R : Option AV → Hp → Prop} {n pc : Nat} {ls : List (Option AV)} {st : List AV} {σ : Hp} {k : Nat × Nat} (h : ct pc = true) : xk_X8_init ct K R n pc ls st σ k = K pc ls st σ k := by unfold xk_X8_init exkS; rw [h]
theorem xf_X8_init {ct : Nat → Bool} {K : Kt} {R : Option AV → Hp → Prop} {n pc : Nat} {ls : List (Option AV)} {st : List AV} {σ : Hp} {k : Nat × Nat} (h : ct pc = false) : xk_X8_init ct K R n pc ls st σ k = xe_X8_init ct K R n pc ls st σ k := by unfold xk_X8_init exkS xe_X8_init; rw [h]
theorem ev_X8_init_0 {ct : Nat → Bool} {K : Kt} {R : Option AV → Hp → Prop} {n : Nat} {ls : List (Option AV)} {st : List AV} {σ : Hp} {k : Nat × Nat} : xe_X8_init ct K R (n + 1) 0 ls st σ k = (lR ls 0 fun x => xk_X8_init ct K R n 1 ls (vr x :: st) σ k) := exS_step.trans rfl
theorem ev_X8_init_1 {ct : Nat → Bool} {K : Kt} {R : Option AV → Hp → Prop} {n : Nat} {ls : List (Option AV)} {st : List AV} {σ : Hp} {k : Nat × Nat} : xe_X8_init ct K R (n + 1) 1 ls st σ k = (popN 1 st [] fun av rest => (catS rest ≤ 8 ∧ 0 < 1 ∧ k.1 + 0 ≤ 1 ∧ k.2 + 0 ≤ 1000) ∧ (spObj) av σ fun v σ' => xk_X8_init ct K R n 4 ls (v.toList ++ rest) σ' (k.1 + 0, k.2 + 0)) := exS_step.trans rfl
theorem ev_X8_init_4 {ct : Nat → Bool} {K : Kt} {R : Option AV → Hp → Prop} {n : Nat} {ls : List (Option AV)} {st : List AV} {σ : Hp} {k : Nat × Nat} : xe_X8_init ct K R (n + 1) 4 ls st σ k = (lR ls 0 fun x => xk_X8_init ct K R n 5 ls (vr x :: st) σ k) := exS_step.trans rfl
theorem ev_X8_init_5 {ct : Nat → Bool} {K : Kt} {R : Option AV → Hp → Prop} {n : Nat} {ls : List (Option AV)} {st : List AV} {σ : Hp} {k : Nat × Nat} : xe_X8_init ct K R (n + 1) 5 ls st σ k = (xk_X8_init ct K R n 8 ls (vi (1000) :: st) σ k) := exS_step.trans rfl
theorem ev_X8_init_8 {ct : Nat → Bool} {K : Kt} {R : Option AV → Hp → Prop} {n : Nat} {ls : List (Option AV)} {st : List AV} {σ : Hp} {k : Nat × Nat} : xe_X8_init ct K R (n + 1) 8 ls st σ k = (oI st fun m st => (0 ≤ m ∧ m ≤ 65536) ∧ (k.1 + 1 ≤ 1 ∧ k.2 + m.toNat ≤ 1000) ∧ xk_X8_init ct K R n 10 ls (vr (nx σ) :: st) (mk σ 104 m) (k.1 + 1, k.2 + m.toNat)) := exS_step.trans rfl
theorem ev_X8_init_10 {ct : Nat → Bool} {K : Kt} {R : Option AV → Hp → Prop} {n : Nat} {ls : List (Option AV)} {st : List AV} {σ : Hp} {k : Nat × Nat} : xe_X8_init ct K R (n + 1) 10 ls st σ k = (oR st fun v st => oR st fun x st => kd σ x = 9 ∧ xk_X8_init ct K R n 13 ls st (pR σ 900 x v) k) := exS_step.trans rfl
theorem ev_X8_init_13 {ct : Nat → Bool} {K : Kt} {R : Option AV → Hp → Prop} {n : Nat} {ls : List (Option AV)} {st : List AV} {σ : Hp} {k : Nat × Nat} : xe_X8_init ct K R (n + 1) 13 ls st σ k = (lR ls 0 fun x => xk_X8_init ct K R n 14 ls (vr x :: st) σ k) := exS_step.trans rfl
theorem ev_X8_init_14 {ct : Nat → Bool} {K : Kt} {R : Option AV → Hp → Prop} {n : Nat} {ls : List (Option AV)} {st : List AV} {σ : Hp} {k : Nat × Nat} : xe_X8_init ct K R (n + 1) 14 ls st σ k = (xk_X8_init ct K R n 15 ls (vi (0) :: st) σ k) := exS_step.trans rfl
theorem ev_X8_init_15 {ct : Nat → Bool} {K : Kt} {R : Option AV → Hp → Prop} {n : Nat} {ls : List (Option AV)} {st : List AV} {σ : Hp} {k : Nat × Nat} : xe_X8_init ct K R (n + 1) 15 ls st σ k = (oI st fun v st => oR st fun x st => kd σ x = 9 ∧ xk_X8_init ct K R n 18 ls st (pI σ 901 x v) k) := exS_step.trans rfl
theorem ev_X8_init_18 {ct : Nat → Bool} {K : Kt} {R : Option AV → Hp → Prop} {n : Nat} {ls : List (Option AV)} {st : List AV} {σ : Hp} {k : Nat × Nat} : xe_X8_init ct K R (n + 1) 18 ls st σ k = (st = [] ∧ 0 = 0 ∧ R none σ) := exS_step.trans rfl
def M_X8_init : Md := (yX8_init, cX8_init, 1, (none : Option FieldType), 1, 1, 1000, 0, true, tb_X8_init, mt_X8_init)
theorem mm_X8_init : MMOK M_X8_init := ⟨by decide +kernel, tk_X8_init, mk_X8_init, rfl, fun _ => rfl⟩
theorem go_X8_init {Q : Option AV → Hp → Prop} {ct : Nat → Bool} {pc : Nat} {ls : List (Option AV)} {st : List AV} {σ : Hp} {k : Nat × Nat} (n : Nat) (h : xe_X8_init ct (Go M_X8_init Q) Q n pc ls st σ k) : Go M_X8_init Q pc ls st σ k := Go.exS mm_X8_init h

set_option maxRecDepth 20000 in
theorem c_X8_init : Ct yX8_init cX8_init 1 ((none : Option FieldType)) 1 1 1000 sp_X8_init := by
  refine Ct.go (M := M_X8_init) mm_X8_init fun av σ Q h0 => ?_
  obtain ⟨this, rfl, hk, h⟩ := el_X8_init h0
  clear h0
  refine ⟨Nat.le_of_ble_eq_true rfl, ?_⟩
  show Go M_X8_init Q 0 [some (vr this)] [] σ (0, 0)
  obtain ⟨σ0, LL, RR, II, AA, hi, h⟩ := h
  have hn := hi.1
  refine Go.wf fun hw => ?_
  have hz : ¬ this = 0 := (hw.2.1 this (by omega)).1
  have hz1 : this < nx σ := (hw.2.1 this (by omega)).2.1
  have hy0 : ¬ this = nx σ := by omega
  refine go_X8_init (ct := fun p => p == 299) 80 ?_
  simp only [oI, oL, oR, o1, lI, lL, lR, popN, catS, gv, stL, stL2, swt, cnd, spObj, List.getElem?_cons_zero, List.getElem?_cons_succ, List.getD_cons_zero, List.getD_cons_succ, List.set_cons_zero, List.set_cons_succ, List.nil_append, List.cons_append, Option.toList, Bool.or_false, Bool.false_or, Bool.or_true, Bool.true_or, Nat.reduceBEq, Nat.reduceAdd, Nat.reduceLT, Nat.reduceLeDiff, Int.reduceAdd, Int.reduceToNat, true_and, and_true, Fin.isValue, Fin.val_zero, Fin.val_one, Fin.val_two, Fin.reduceFinMk, eq_self, Int.reduceNeg, imp_self, Nat.reduceMul, Nat.le_refl, not_true_eq_false, not_false_eq_true, List.getElem?_nil, reduceCtorEq, true_or, or_true, Classical.not_not, implies_true, or_self, wI_0, wI_1, wI_m1, b2i_w, b2i_eq0, b2i_eq1, b2i_bool, nor_self, nx_pI, kd_pI, ln_pI, fI_pI, fL_pI, fR_pI, aI_pI, aL_pI, aR_pI, nx_pL, kd_pL, ln_pL, fI_pL, fL_pL, fR_pL, aI_pL, aL_pL, aR_pL, nx_pR, kd_pR, ln_pR, fI_pR, fL_pR, fR_pR, aI_pR, aL_pR, aR_pR, nx_qI, kd_qI, ln_qI, fI_qI, fL_qI, fR_qI, aI_qI, aL_qI, aR_qI, nx_qL, kd_qL, ln_qL, fI_qL, fL_qL, fR_qL, aI_qL, aL_qL, aR_qL, nx_qR, kd_qR, ln_qR, fI_qR, fL_qR, fR_qR, aI_qR, aL_qR, aR_qR, nx_mk, kd_mk, ln_mk, fI_mk, fL_mk, fR_mk, aI_mk, aL_mk, aR_mk, false_and, and_false, if_false, if_true, and_self, Int.reduceEq, Nat.reduceEqDiff, ite_self, MLay_pI, MLay_pL, MLay_qI, MLay_qL, ev_X8_init_0, ev_X8_init_1, ev_X8_init_4, ev_X8_init_5, ev_X8_init_8, ev_X8_init_10, ev_X8_init_13, ev_X8_init_14, ev_X8_init_15, ev_X8_init_18, xt_X8_init, xf_X8_init, hk, hy0]
  repeat' (first | intro z | apply And.intro)
  all_goals try omega
  all_goals try contradiction
  all_goals first | exact hz | (refine h _ ?_; (repeat' (first | exact hi | (refine Ini.pI' (by omega) (by omega) ?_) | (refine Ini.pR' (by decide) (by omega) (by first | omega | exact hi.ee) ?_) | (refine Ini.qR' (by omega) (by omega) (by omega) ?_) | refine Ini.mk' ?_)))

def sp_X7_init : Sp := fun av σ Q => oR av fun this av => av = [] ∧ kd σ this = 8 ∧ (∃ (σ0 : Hp) (LL : List (Nat × Int)) (RR II : List ((Nat × Int) × Int)) (AA : List ((Int × Int) × Int)), Ini σ0 σ LL RR II AA ∧ ∀ σ9, Ini σ0 σ9 (LL ++ [(101, 24)] ++ [(101, 24)] ++ [(101, 24)] ++ [(101, 1000)] ++ [(101, 40)]) (((804, this), 1 + (LL.length : Int) + 4) :: ((803, this), 1 + (LL.length : Int) + 3) :: ((802, this), 1 + (LL.length : Int) + 2) :: ((801, this), 1 + (LL.length : Int) + 1) :: ((800, this), 1 + (LL.length : Int)) :: RR) (((807, this), 0) :: ((806, this), 0) :: ((805, this), 0) :: II) AA → Q none σ9)
theorem us_X7_init (this : Int) (σ : Hp) (Q : Option AV → Hp → Prop) : sp_X7_init [vr this] σ Q = (kd σ this = 8 ∧ (∃ (σ0 : Hp) (LL : List (Nat × Int)) (RR II : List ((Nat × Int) × Int)) (AA : List ((Int × Int) × Int)), Ini σ0 σ LL RR II AA ∧ ∀ σ9, Ini σ0 σ9 (LL ++ [(101, 24)] ++ [(101, 24)] ++ [(101, 24)] ++ [(101, 1000)] ++ [(101, 40)]) (((804, this), 1 + (LL.length : Int) + 4) :: ((803, this), 1 + (LL.length : Int) + 3) :: ((802, this), 1 + (LL.length : Int) + 2) :: ((801, this), 1 + (LL.length : Int) + 1) :: ((800, this), 1 + (LL.length : Int)) :: RR) (((807, this), 0) :: ((806, this), 0) :: ((805, this), 0) :: II) AA → Q none σ9)) := propext ⟨fun h => h.2, fun h => ⟨rfl, h⟩⟩
theorem el_X7_init {av : List AV} {σ : Hp} {Q : Option AV → Hp → Prop} (h : sp_X7_init av σ Q) : ∃ (this : Int), av = [vr this] ∧ (kd σ this = 8 ∧ (∃ (σ0 : Hp) (LL : List (Nat × Int)) (RR II : List ((Nat × Int) × Int)) (AA : List ((Int × Int) × Int)), Ini σ0 σ LL RR II AA ∧ ∀ σ9, Ini σ0 σ9 (LL ++ [(101, 24)] ++ [(101, 24)] ++ [(101, 24)] ++ [(101, 1000)] ++ [(101, 40)]) (((804, this), 1 + (LL.length : Int) + 4) :: ((803, this), 1 + (LL.length : Int) + 3) :: ((802, this), 1 + (LL.length : Int) + 2) :: ((801, this), 1 + (LL.length : Int) + 1) :: ((800, this), 1 + (LL.length : Int)) :: RR) (((807, this), 0) :: ((806, this), 0) :: ((805, this), 0) :: II) AA → Q none σ9)) := by
  obtain ⟨this, a0, rfl, h0⟩ := oR_s h
  obtain ⟨rfl, hz⟩ := h0
  exact ⟨this, rfl, hz⟩
theorem rc_X7_init : ∀ (av : List AV) (σ : Hp) (Q : Option AV → Hp → Prop), sp_X7_init av σ Q → ∃ r tl, av = vr r :: tl ∧ kd σ r = 7 + 1 := fun av σ Q h => by
  obtain ⟨this, rfl, hz, -⟩ := el_X7_init h
  exact ⟨this, _, rfl, hz⟩
theorem rcn_X7_init : ∀ (av : List AV) (σ : Hp) (Q : Option AV → Hp → Prop), sp_X7_init av σ Q → ∃ r tl, av = vr r :: tl ∧ kd σ r ≠ 0 := fun av σ Q h => by
  obtain ⟨r, tl, e, hz⟩ := rc_X7_init av σ Q h
  exact ⟨r, tl, e, by omega⟩

def tb_X7_init : Tab := [(0, .aload_n 0, 1, (0, 0, 0, 0)), (1, .invokespecial 3, 3, (0, 0, 0, 0)), (4, .aload_n 0, 1, (0, 0, 0, 0)), (5, .bipush 24, 2, (0, 0, 0, 0)), (7, .newarray .int, 2, (101, 0, 0, 0)), (9, .putfield 9, 3, (8, 800, 2, 0)), (12, .aload_n 0, 1, (0, 0, 0, 0)), (13, .bipush 24, 2, (0, 0, 0, 0)), (15, .newarray .int, 2, (101, 0, 0, 0)), (17, .putfield 15, 3, (8, 801, 2, 0)), (20, .aload_n 0, 1, (0, 0, 0, 0)), (21, .bipush 24, 2, (0, 0, 0, 0)), (23, .newarray .int, 2, (101, 0, 0, 0)), (25, .putfield 18, 3, (8, 802, 2, 0)), (28, .aload_n 0, 1, (0, 0, 0, 0)), (29, .sipush 1000, 3, (0, 0, 0, 0)), (32, .newarray .int, 2, (101, 0, 0, 0)), (34, .putfield 21, 3, (8, 803, 2, 0)), (37, .aload_n 0, 1, (0, 0, 0, 0)), (38, .bipush 40, 2, (0, 0, 0, 0)), (40, .newarray .int, 2, (101, 0, 0, 0)), (42, .putfield 24, 3, (8, 804, 2, 0)), (45, .aload_n 0, 1, (0, 0, 0, 0)), (46, .iconst 0, 1, (0, 0, 0, 0)), (47, .putfield 27, 3, (8, 805, 0, 0)), (50, .aload_n 0, 1, (0, 0, 0, 0)), (51, .iconst 0, 1, (0, 0, 0, 0)), (52, .putfield 31, 3, (8, 806, 0, 0)), (55, .aload_n 0, 1, (0, 0, 0, 0)), (56, .iconst 0, 1, (0, 0, 0, 0)), (57, .putfield 34, 3, (8, 807, 0, 0)), (60, .return_, 1, (0, 0, 0, 0))]
set_option maxRecDepth 100000 in
theorem tk_X7_init : TOK RX7 true cX7_init tb_X7_init := chkT_ok ft_X7 (by decide +kernel)
theorem rw_X7_26 : Row RX7 (.invokespecial 3) 3 1 0 0 0 spObj := row_obj (TBL_in 319 (by decide +kernel) rfl) (TBL_in 148 (by decide +kernel) rfl) (TBL_in 149 (by decide +kernel) rfl)
def mt_X7_init : List (Nat × Mt) := [(26, 1, 0, 0, 0, spObj)]
theorem em_X7_init : mt_X7_init.lookup 26 = some (1, 0, 0, 0, spObj) := rfl
theorem mk_X7_init : MOK RX7 mt_X7_init := by
  intro q hq
  simp only [mt_X7_init, List.mem_cons, List.not_mem_nil, or_false] at hq
  rcases hq with rfl
  · exact rw_X7_26
noncomputable def xe_X7_init (ct : Nat → Bool) (K : Kt) (R : Option AV → Hp → Prop) (n : Nat) : Kt := exS 1 1 5 1112 0 tb_X7_init mt_X7_init ct K R n
noncomputable def xk_X7_init (ct : Nat → Bool) (K : Kt) (R : Option AV → Hp → Prop) (n : Nat) : Kt := exkS 1 1 5 1112 0 tb_X7_init mt_X7_init ct K R n
theorem xt_X7_init {ct : Nat → Bool} {K : Kt} {R : Option AV → Hp → Prop} {n pc : Nat} {ls : List (Option AV)} {st : List AV} {σ : Hp} {k : Nat × Nat} (h : ct pc = true) : xk_X7_init ct K R n pc ls st σ k = K pc ls st σ k := by unfold xk_X7_init exkS; rw [h]
theorem xf_X7_init {ct : Nat → Bool} {K : Kt} {R : Option AV → Hp → Prop} {n pc : Nat} {ls : List (Option AV)} {st : List AV} {σ : Hp} {k : Nat × Nat} (h : ct pc = false) : xk_X7_init ct K R n pc ls st σ k = xe_X7_init ct K R n pc ls st σ k := by unfold xk_X7_init exkS xe_X7_init; rw [h]
theorem ev_X7_init_0 {ct : Nat → Bool} {K : Kt} {R : Option AV → Hp → Prop} {n : Nat} {ls : List (Option AV)} {st : List AV} {σ : Hp} {k : Nat × Nat} : xe_X7_init ct K R (n + 1) 0 ls st σ k = (lR ls 0 fun x => xk_X7_init ct K R n 1 ls (vr x :: st) σ k) := exS_step.trans rfl
theorem ev_X7_init_1 {ct : Nat → Bool} {K : Kt} {R : Option AV → Hp → Prop} {n : Nat} {ls : List (Option AV)} {st : List AV} {σ : Hp} {k : Nat × Nat} : xe_X7_init ct K R (n + 1) 1 ls st σ k = (popN 1 st [] fun av rest => (catS rest ≤ 8 ∧ 0 < 1 ∧ k.1 + 0 ≤ 5 ∧ k.2 + 0 ≤ 1112) ∧ (spObj) av σ fun v σ' => xk_X7_init ct K R n 4 ls (v.toList ++ rest) σ' (k.1 + 0, k.2 + 0)) := exS_step.trans rfl
theorem ev_X7_init_4 {ct : Nat → Bool} {K : Kt} {R : Option AV → Hp → Prop} {n : Nat} {ls : List (Option AV)} {st : List AV} {σ : Hp} {k : Nat × Nat} : xe_X7_init ct K R (n + 1) 4 ls st σ k = (lR ls 0 fun x => xk_X7_init ct K R n 5 ls (vr x :: st) σ k) := exS_step.trans rfl
theorem ev_X7_init_5 {ct : Nat → Bool} {K : Kt} {R : Option AV → Hp → Prop} {n : Nat} {ls : List (Option AV)} {st : List AV} {σ : Hp} {k : Nat × Nat} : xe_X7_init ct K R (n + 1) 5 ls st σ k = (xk_X7_init ct K R n 7 ls (vi (24) :: st) σ k) := exS_step.trans rfl
theorem ev_X7_init_7 {ct : Nat → Bool} {K : Kt} {R : Option AV → Hp → Prop} {n : Nat} {ls : List (Option AV)} {st : List AV} {σ : Hp} {k : Nat × Nat} : xe_X7_init ct K R (n + 1) 7 ls st σ k = (oI st fun m st => (0 ≤ m ∧ m ≤ 65536) ∧ (k.1 + 1 ≤ 5 ∧ k.2 + m.toNat ≤ 1112) ∧ xk_X7_init ct K R n 9 ls (vr (nx σ) :: st) (mk σ 101 m) (k.1 + 1, k.2 + m.toNat)) := exS_step.trans rfl
theorem ev_X7_init_9 {ct : Nat → Bool} {K : Kt} {R : Option AV → Hp → Prop} {n : Nat} {ls : List (Option AV)} {st : List AV} {σ : Hp} {k : Nat × Nat} : xe_X7_init ct K R (n + 1) 9 ls st σ k = (oR st fun v st => oR st fun x st => kd σ x = 8 ∧ xk_X7_init ct K R n 12 ls st (pR σ 800 x v) k) := exS_step.trans rfl
theorem ev_X7_init_12 {ct : Nat → Bool} {K : Kt} {R : Option AV → Hp → Prop} {n : Nat} {ls : List (Option AV)} {st : List AV} {σ : Hp} {k : Nat × Nat} : xe_X7_init ct K R (n + 1) 12 ls st σ k = (lR ls 0 fun x => xk_X7_init ct K R n 13 ls (vr x :: st) σ k) := exS_step.trans rfl
theorem ev_X7_init_13 {ct : Nat → Bool} {K : Kt} {R : Option AV → Hp → Prop} {n : Nat} {ls : List (Option AV)} {st : List AV} {σ : Hp} {k : Nat × Nat} : xe_X7_init ct K R (n + 1) 13 ls st σ k = (xk_X7_init ct K R n 15 ls (vi (24) :: st) σ k) := exS_step.trans rfl
theorem ev_X7_init_15 {ct : Nat → Bool} {K : Kt} {R : Option AV → Hp → Prop} {n : Nat} {ls : List (Option AV)} {st : List AV} {σ : Hp} {k : Nat × Nat} : xe_X7_init ct K R (n + 1) 15 ls st σ k = (oI st fun m st => (0 ≤ m ∧ m ≤ 65536) ∧ (k.1 + 1 ≤ 5 ∧ k.2 + m.toNat ≤ 1112) ∧ xk_X7_init ct K R n 17 ls (vr (nx σ) :: st) (mk σ 101 m) (k.1 + 1, k.2 + m.toNat)) := exS_step.trans rfl
theorem ev_X7_init_17 {ct : Nat → Bool} {K : Kt} {R : Option AV → Hp → Prop} {n : Nat} {ls : List (Option AV)} {st : List AV} {σ : Hp} {k : Nat × Nat} : xe_X7_init ct K R (n + 1) 17 ls st σ k = (oR st fun v st => oR st fun x st => kd σ x = 8 ∧ xk_X7_init ct K R n 20 ls st (pR σ 801 x v) k) := exS_step.trans rfl
theorem ev_X7_init_20 {ct : Nat → Bool} {K : Kt} {R : Option AV → Hp → Prop} {n : Nat} {ls : List (Option AV)} {st : List AV} {σ : Hp} {k : Nat × Nat} : xe_X7_init ct K R (n + 1) 20 ls st σ k = (lR ls 0 fun x => xk_X7_init ct K R n 21 ls (vr x :: st) σ k) := exS_step.trans rfl
theorem ev_X7_init_21 {ct : Nat → Bool} {K : Kt} {R : Option AV → Hp → Prop} {n : Nat} {ls : List (Option AV)} {st : List AV} {σ : Hp} {k : Nat × Nat} : xe_X7_init ct K R (n + 1) 21 ls st σ k = (xk_X7_init ct K R n 23 ls (vi (24) :: st) σ k) := exS_step.trans rfl
theorem ev_X7_init_23 {ct : Nat → Bool} {K : Kt} {R : Option AV → Hp → Prop} {n : Nat} {ls : List (Option AV)} {st : List AV} {σ : Hp} {k : Nat × Nat} : xe_X7_init ct K R (n + 1) 23 ls st σ k = (oI st fun m st => (0 ≤ m ∧ m ≤ 65536) ∧ (k.1 + 1 ≤ 5 ∧ k.2 + m.toNat ≤ 1112) ∧ xk_X7_init ct K R n 25 ls (vr (nx σ) :: st) (mk σ 101 m) (k.1 + 1, k.2 + m.toNat)) := exS_step.trans rfl
theorem ev_X7_init_25 {ct : Nat → Bool} {K : Kt} {R : Option AV → Hp → Prop} {n : Nat} {ls : List (Option AV)} {st : List AV} {σ : Hp} {k : Nat × Nat} : xe_X7_init ct K R (n + 1) 25 ls st σ k = (oR st fun v st => oR st fun x st => kd σ x = 8 ∧ xk_X7_init ct K R n 28 ls st (pR σ 802 x v) k) := exS_step.trans rfl
theorem ev_X7_init_28 {ct : Nat → Bool} {K : Kt} {R : Option AV → Hp → Prop} {n : Nat} {ls : List (Option AV)} {st : List AV} {σ : Hp} {k : Nat × Nat} : xe_X7_init ct K R (n + 1) 28 ls st σ k = (lR ls 0 fun x => xk_X7_init ct K R n 29 ls (vr x :: st) σ k) := exS_step.trans rfl
theorem ev_X7_init_29 {ct : Nat → Bool} {K : Kt} {R : Option AV → Hp → Prop} {n : Nat} {ls : List (Option AV)} {st : List AV} {σ : Hp} {k : Nat × Nat} : xe_X7_init ct K R (n + 1) 29 ls st σ k = (xk_X7_init ct K R n 32 ls (vi (1000) :: st) σ k) := exS_step.trans rfl
theorem ev_X7_init_32 {ct : Nat → Bool} {K : Kt} {R : Option AV → Hp → Prop} {n : Nat} {ls : List (Option AV)} {st : List AV} {σ : Hp} {k : Nat × Nat} : xe_X7_init ct K R (n + 1) 32 ls st σ k = (oI st fun m st => (0 ≤ m ∧ m ≤ 65536) ∧ (k.1 + 1 ≤ 5 ∧ k.2 + m.toNat ≤ 1112) ∧ xk_X7_init ct K R n 34 ls (vr (nx σ) :: st) (mk σ 101 m) (k.1 + 1, k.2 + m.toNat)) := exS_step.trans rfl
theorem ev_X7_init_34 {ct : Nat → Bool} {K : Kt} {R : Option AV → Hp → Prop} {n : Nat} {ls : List (Option AV)} {st : List AV} {σ : Hp} {k : Nat × Nat} : xe_X7_init ct K R (n + 1) 34 ls st σ k = (oR st fun v st => oR st fun x st => kd σ x = 8 ∧ xk_X7_init ct K R n 37 ls st (pR σ 803 x v) k) := exS_step.trans rfl
theorem ev_X7_init_37 {ct : Nat → Bool} {K : Kt} {R : Option AV → Hp → Prop} {n : Nat} {ls : List (Option AV)} {st : List AV} {σ : Hp} {k : Nat × Nat} : xe_X7_init ct K R (n + 1) 37 ls st σ k = (lR ls 0 fun x => xk_X7_init ct K R n 38 ls (vr x :: st) σ k) := exS_step.trans rfl
theorem ev_X7_init_38 {ct : Nat → Bool} {K : Kt} {R : Option AV → Hp → Prop} {n : Nat} {ls : List (Option AV)} {st : List AV} {σ : Hp} {k : Nat × Nat} : xe_X7_init ct K R (n + 1) 38 ls st σ k = (xk_X7_init ct K R n 40 ls (vi (40) :: st) σ k) := exS_step.trans rfl
theorem ev_X7_init_40 {ct : Nat → Bool} {K : Kt} {R : Option AV → Hp → Prop} {n : Nat} {ls : List (Option AV)} {st : List AV} {σ : Hp} {k : Nat × Nat} : xe_X7_init ct K R (n + 1) 40 ls st σ k = (oI st fun m st => (0 ≤ m ∧ m ≤ 65536) ∧ (k.1 + 1 ≤ 5 ∧ k.2 + m.toNat ≤ 1112) ∧ xk_X7_init ct K R n 42 ls (vr (nx σ) :: st) (mk σ 101 m) (k.1 + 1, k.2 + m.toNat)) := exS_step.trans rfl
theorem ev_X7_init_42 {ct : Nat → Bool} {K : Kt} {R : Option AV → Hp → Prop} {n : Nat} {ls : List (Option AV)} {st : List AV} {σ : Hp} {k : Nat × Nat} : xe_X7_init ct K R (n + 1) 42 ls st σ k = (oR st fun v st => oR st fun x st => kd σ x = 8 ∧ xk_X7_init ct K R n 45 ls st (pR σ 804 x v) k) := exS_step.trans rfl
theorem ev_X7_init_45 {ct : Nat → Bool} {K : Kt} {R : Option AV → Hp → Prop} {n : Nat} {ls : List (Option AV)} {st : List AV} {σ : Hp} {k : Nat × Nat} : xe_X7_init ct K R (n + 1) 45 ls st σ k = (lR ls 0 fun x => xk_X7_init ct K R n 46 ls (vr x :: st) σ k) := exS_step.trans rfl
theorem ev_X7_init_46 {ct : Nat → Bool} {K : Kt} {R : Option AV → Hp → Prop} {n : Nat} {ls : List (Option AV)} {st : List AV} {σ : Hp} {k : Nat × Nat} : xe_X7_init ct K R (n + 1) 46 ls st σ k = (xk_X7_init ct K R n 47 ls (vi (0) :: st) σ k) := exS_step.trans rfl
theorem ev_X7_init_47 {ct : Nat → Bool} {K : Kt} {R : Option AV → Hp → Prop} {n : Nat} {ls : List (Option AV)} {st : List AV} {σ : Hp} {k : Nat × Nat} : xe_X7_init ct K R (n + 1) 47 ls st σ k = (oI st fun v st => oR st fun x st => kd σ x = 8 ∧ xk_X7_init ct K R n 50 ls st (pI σ 805 x v) k) := exS_step.trans rfl
theorem ev_X7_init_50 {ct : Nat → Bool} {K : Kt} {R : Option AV → Hp → Prop} {n : Nat} {ls : List (Option AV)} {st : List AV} {σ : Hp} {k : Nat × Nat} : xe_X7_init ct K R (n + 1) 50 ls st σ k = (lR ls 0 fun x => xk_X7_init ct K R n 51 ls (vr x :: st) σ k) := exS_step.trans rfl
theorem ev_X7_init_51 {ct : Nat → Bool} {K : Kt} {R : Option AV → Hp → Prop} {n : Nat} {ls : List (Option AV)} {st : List AV} {σ : Hp} {k : Nat × Nat} : xe_X7_init ct K R (n + 1) 51 ls st σ k = (xk_X7_init ct K R n 52 ls (vi (0) :: st) σ k) := exS_step.trans rfl
theorem ev_X7_init_52 {ct : Nat → Bool} {K : Kt} {R : Option AV → Hp → Prop} {n : Nat} {ls : List (Option AV)} {st : List AV} {σ : Hp} {k : Nat × Nat} : xe_X7_init ct K R (n + 1) 52 ls st σ k = (oI st fun v st => oR st fun x st => kd σ x = 8 ∧ xk_X7_init ct K R n 55 ls st (pI σ 806 x v) k) := exS_step.trans rfl
theorem ev_X7_init_55 {ct : Nat → Bool} {K : Kt} {R : Option AV → Hp → Prop} {n : Nat} {ls : List (Option AV)} {st : List AV} {σ : Hp} {k : Nat × Nat} : xe_X7_init ct K R (n + 1) 55 ls st σ k = (lR ls 0 fun x => xk_X7_init ct K R n 56 ls (vr x :: st) σ k) := exS_step.trans rfl
theorem ev_X7_init_56 {ct : Nat → Bool} {K : Kt} {R : Option AV → Hp → Prop} {n : Nat} {ls : List (Option AV)} {st : List AV} {σ : Hp} {k : Nat × Nat} : xe_X7_init ct K R (n + 1) 56 ls st σ k = (xk_X7_init ct K R n 57 ls (vi (0) :: st) σ k) := exS_step.trans rfl
theorem ev_X7_init_57 {ct : Nat → Bool} {K : Kt} {R : Option AV → Hp → Prop} {n : Nat} {ls : List (Option AV)} {st : List AV} {σ : Hp} {k : Nat × Nat} : xe_X7_init ct K R (n + 1) 57 ls st σ k = (oI st fun v st => oR st fun x st => kd σ x = 8 ∧ xk_X7_init ct K R n 60 ls st (pI σ 807 x v) k) := exS_step.trans rfl
theorem ev_X7_init_60 {ct : Nat → Bool} {K : Kt} {R : Option AV → Hp → Prop} {n : Nat} {ls : List (Option AV)} {st : List AV} {σ : Hp} {k : Nat × Nat} : xe_X7_init ct K R (n + 1) 60 ls st σ k = (st = [] ∧ 0 = 0 ∧ R none σ) := exS_step.trans rfl
def M_X7_init : Md := (yX7_init, cX7_init, 1, (none : Option FieldType), 1, 5, 1112, 0, true, tb_X7_init, mt_X7_init)
theorem mm_X7_init : MMOK M_X7_init := ⟨by decide +kernel, tk_X7_init, mk_X7_init, rfl, fun _ => rfl⟩
theorem go_X7_init {Q : Option AV → Hp → Prop} {ct : Nat → Bool} {pc : Nat} {ls : List (Option AV)} {st : List AV} {σ : Hp} {k : Nat × Nat} (n : Nat) (h : xe_X7_init ct (Go M_X7_init Q) Q n pc ls st σ k) : Go M_X7_init Q pc ls st σ k := Go.exS mm_X7_init h

set_option maxRecDepth 20000 in
theorem c_X7_init : Ct yX7_init cX7_init 1 ((none : Option FieldType)) 1 5 1112 sp_X7_init := by
  refine Ct.go (M := M_X7_init) mm_X7_init fun av σ Q h0 => ?_
  obtain ⟨this, rfl, hk, h⟩ := el_X7_init h0
  clear h0
  refine ⟨Nat.le_of_ble_eq_true rfl, ?_⟩
  show Go M_X7_init Q 0 [some (vr this)] [] σ (0, 0)
  obtain ⟨σ0, LL, RR, II, AA, hi, h⟩ := h
  have hn := hi.1
  refine Go.wf fun hw => ?_
  have hz : ¬ this = 0 := (hw.2.1 this (by omega)).1
  have hz1 : this < nx σ := (hw.2.1 this (by omega)).2.1
  have hy0 : ¬ this = nx σ := by omega
  have hy1 : ¬ this = nx σ + 1 := by omega
  have hy2 : ¬ this = nx σ + 1 + 1 := by omega
  have hy3 : ¬ this = nx σ + 1 + 1 + 1 := by omega
  have hy4 : ¬ this = nx σ + 1 + 1 + 1 + 1 := by omega
  refine go_X7_init (ct := fun p => p == 299) 80 ?_
  simp only [oI, oL, oR, o1, lI, lL, lR, popN, catS, gv, stL, stL2, swt, cnd, spObj, List.getElem?_cons_zero, List.getElem?_cons_succ, List.getD_cons_zero, List.getD_cons_succ, List.set_cons_zero, List.set_cons_succ, List.nil_append, List.cons_append, Option.toList, Bool.or_false, Bool.false_or, Bool.or_true, Bool.true_or, Nat.reduceBEq, Nat.reduceAdd, Nat.reduceLT, Nat.reduceLeDiff, Int.reduceAdd, Int.reduceToNat, true_and, and_true, Fin.isValue, Fin.val_zero, Fin.val_one, Fin.val_two, Fin.reduceFinMk, eq_self, Int.reduceNeg, imp_self, Nat.reduceMul, Nat.le_refl, not_true_eq_false, not_false_eq_true, List.getElem?_nil, reduceCtorEq, true_or, or_true, Classical.not_not, implies_true, or_self, wI_0, wI_1, wI_m1, b2i_w, b2i_eq0, b2i_eq1, b2i_bool, nor_self, nx_pI, kd_pI, ln_pI, fI_pI, fL_pI, fR_pI, aI_pI, aL_pI, aR_pI, nx_pL, kd_pL, ln_pL, fI_pL, fL_pL, fR_pL, aI_pL, aL_pL, aR_pL, nx_pR, kd_pR, ln_pR, fI_pR, fL_pR, fR_pR, aI_pR, aL_pR, aR_pR, nx_qI, kd_qI, ln_qI, fI_qI, fL_qI, fR_qI, aI_qI, aL_qI, aR_qI, nx_qL, kd_qL, ln_qL, fI_qL, fL_qL, fR_qL, aI_qL, aL_qL, aR_qL, nx_qR, kd_qR, ln_qR, fI_qR, fL_qR, fR_qR, aI_qR, aL_qR, aR_qR, nx_mk, kd_mk, ln_mk, fI_mk, fL_mk, fR_mk, aI_mk, aL_mk, aR_mk, false_and, and_false, if_false, if_true, and_self, Int.reduceEq, Nat.reduceEqDiff, ite_self, MLay_pI, MLay_pL, MLay_qI, MLay_qL, ev_X7_init_0, ev_X7_init_1, ev_X7_init_4, ev_X7_init_5, ev_X7_init_7, ev_X7_init_9, ev_X7_init_12, ev_X7_init_13, ev_X7_init_15, ev_X7_init_17, ev_X7_init_20, ev_X7_init_21, ev_X7_init_23, ev_X7_init_25, ev_X7_init_28, ev_X7_init_29, ev_X7_init_32, ev_X7_init_34, ev_X7_init_37, ev_X7_init_38, ev_X7_init_40, ev_X7_init_42, ev_X7_init_45, ev_X7_init_46, ev_X7_init_47, ev_X7_init_50, ev_X7_init_51, ev_X7_init_52, ev_X7_init_55, ev_X7_init_56, ev_X7_init_57, ev_X7_init_60, xt_X7_init, xf_X7_init, hk, hy0, hy1, hy2, hy3, hy4]
  repeat' (first | intro z | apply And.intro)
  all_goals try omega
  all_goals try contradiction
  all_goals first | exact hz | (refine h _ ?_; (repeat' (first | exact hi | (refine Ini.pI' (by omega) (by omega) ?_) | (refine Ini.pR' (by decide) (by omega) (by first | omega | exact hi.ee) ?_) | (refine Ini.qR' (by omega) (by omega) (by omega) ?_) | refine Ini.mk' ?_)))

def sp_X1_init : Sp := fun av σ Q => oR av fun this av => av = [] ∧ kd σ this = 2 ∧ (∃ (σ0 : Hp) (LL : List (Nat × Int)) (RR II : List ((Nat × Int) × Int)) (AA : List ((Int × Int) × Int)), Ini σ0 σ LL RR II AA ∧ ∀ σ9, Ini σ0 σ9 (LL ++ [(14, 0)] ++ [(101, 200)] ++ [(101, 200)] ++ [(103, 200)]) (((203, this), 1 + (LL.length : Int) + 3) :: ((202, this), 1 + (LL.length : Int) + 2) :: ((201, this), 1 + (LL.length : Int) + 1) :: ((200, this), 1 + (LL.length : Int)) :: ((1401, 1 + (LL.length : Int)), fR σ0 3000 0) :: RR) (((204, this), 0) :: ((1400, 1 + (LL.length : Int)), 0) :: II) AA → Q none σ9)
theorem us_X1_init (this : Int) (σ : Hp) (Q : Option AV → Hp → Prop) : sp_X1_init [vr this] σ Q = (kd σ this = 2 ∧ (∃ (σ0 : Hp) (LL : List (Nat × Int)) (RR II : List ((Nat × Int) × Int)) (AA : List ((Int × Int) × Int)), Ini σ0 σ LL RR II AA ∧ ∀ σ9, Ini σ0 σ9 (LL ++ [(14, 0)] ++ [(101, 200)] ++ [(101, 200)] ++ [(103, 200)]) (((203, this), 1 + (LL.length : Int) + 3) :: ((202, this), 1 + (LL.length : Int) + 2) :: ((201, this), 1 + (LL.length : Int) + 1) :: ((200, this), 1 + (LL.length : Int)) :: ((1401, 1 + (LL.length : Int)), fR σ0 3000 0) :: RR) (((204, this), 0) :: ((1400, 1 + (LL.length : Int)), 0) :: II) AA → Q none σ9)) := propext ⟨fun h => h.2, fun h => ⟨rfl, h⟩⟩
theorem el_X1_init {av : List AV} {σ : Hp} {Q : Option AV → Hp → Prop} (h : sp_X1_init av σ Q) : ∃ (this : Int), av = [vr this] ∧ (kd σ this = 2 ∧ (∃ (σ0 : Hp) (LL : List (Nat × Int)) (RR II : List ((Nat × Int) × Int)) (AA : List ((Int × Int) × Int)), Ini σ0 σ LL RR II AA ∧ ∀ σ9, Ini σ0 σ9 (LL ++ [(14, 0)] ++ [(101, 200)] ++ [(101, 200)] ++ [(103, 200)]) (((203, this), 1 + (LL.length : Int) + 3) :: ((202, this), 1 + (LL.length : Int) + 2) :: ((201, this), 1 + (LL.length : Int) + 1) :: ((200, this), 1 + (LL.length : Int)) :: ((1401, 1 + (LL.length : Int)), fR σ0 3000 0) :: RR) (((204, this), 0) :: ((1400, 1 + (LL.length : Int)), 0) :: II) AA → Q none σ9)) := by
  obtain ⟨this, a0, rfl, h0⟩ := oR_s h
  obtain ⟨rfl, hz⟩ := h0
  exact ⟨this, rfl, hz⟩
theorem rc_X1_init : ∀ (av : List AV) (σ : Hp) (Q : Option AV → Hp → Prop), sp_X1_init av σ Q → ∃ r tl, av = vr r :: tl ∧ kd σ r = 1 + 1 := fun av σ Q h => by
  obtain ⟨this, rfl, hz, -⟩ := el_X1_init h
  exact ⟨this, _, rfl, hz⟩
theorem rcn_X1_init : ∀ (av : List AV) (σ : Hp) (Q : Option AV → Hp → Prop), sp_X1_init av σ Q → ∃ r tl, av = vr r :: tl ∧ kd σ r ≠ 0 := fun av σ Q h => by
  obtain ⟨r, tl, e, hz⟩ := rc_X1_init av σ Q h
  exact ⟨r, tl, e, by omega⟩

def tb_X1_init : Tab := [(0, .aload_n 0, 1, (0, 0, 0, 0)), (1, .invokespecial 3, 3, (0, 0, 0, 0)), (4, .aload_n 0, 1, (0, 0, 0, 0)), (5, .new 9, 3, (14, 3, 0, 0)), (8, .dup, 1, (0, 0, 0, 0)), (9, .invokespecial 11, 3, (0, 0, 0, 0)), (12, .putfield 12, 3, (2, 200, 2, 0)), (15, .aload_n 0, 1, (0, 0, 0, 0)), (16, .sipush 200, 3, (0, 0, 0, 0)), (19, .newarray .int, 2, (101, 0, 0, 0)), (21, .putfield 18, 3, (2, 201, 2, 0)), (24, .aload_n 0, 1, (0, 0, 0, 0)), (25, .sipush 200, 3, (0, 0, 0, 0)), (28, .newarray .int, 2, (101, 0, 0, 0)), (30, .putfield 22, 3, (2, 202, 2, 0)), (33, .aload_n 0, 1, (0, 0, 0, 0)), (34, .sipush 200, 3, (0, 0, 0, 0)), (37, .newarray .boolean, 2, (103, 0, 0, 0)), (39, .putfield 25, 3, (2, 203, 2, 0)), (42, .aload_n 0, 1, (0, 0, 0, 0)), (43, .iconst 0, 1, (0, 0, 0, 0)), (44, .putfield 29, 3, (2, 204, 0, 0)), (47, .return_, 1, (0, 0, 0, 0))]
set_option maxRecDepth 100000 in
theorem tk_X1_init : TOK RX1 true cX1_init tb_X1_init := chkT_ok ft_X1 (by decide +kernel)
theorem rw_X1_26 : Row RX1 (.invokespecial 3) 3 1 0 0 0 spObj := row_obj (TBL_in 377 (by decide +kernel) rfl) (TBL_in 148 (by decide +kernel) rfl) (TBL_in 149 (by decide +kernel) rfl)
theorem rw_X1_90 : Row RX1 (.invokespecial 11) 3 1 0 0 3 sp_Jx4a65c_init_da8c8 := row_I (n := 0) c_Jx4a65c_init_da8c8 ⟨TBL_in 379 (by decide +kernel) rfl, TBL_in 164 (by decide +kernel) rfl, TBL_in 115 (by decide +kernel) rfl, by decide +kernel, by decide⟩ (TBL_in 163 (by decide +kernel) rfl) rfl (rcn_Jx4a65c_init_da8c8)
def mt_X1_init : List (Nat × Mt) := [(26, 1, 0, 0, 0, spObj), (90, 1, 0, 0, 3, sp_Jx4a65c_init_da8c8)]
theorem em_X1_init : mt_X1_init.lookup 26 = some (1, 0, 0, 0, spObj) ∧ mt_X1_init.lookup 90 = some (1, 0, 0, 3, sp_Jx4a65c_init_da8c8) := ⟨rfl, rfl⟩
theorem mk_X1_init : MOK RX1 mt_X1_init := by
  intro q hq
  simp only [mt_X1_init, List.mem_cons, List.not_mem_nil, or_false] at hq
  rcases hq with rfl | rfl
  · exact rw_X1_26
  · exact rw_X1_90
noncomputable def xe_X1_init (ct : Nat → Bool) (K : Kt) (R : Option AV → Hp → Prop) (n : Nat) : Kt := exS 1 4 4 603 0 tb_X1_init mt_X1_init ct K R n
noncomputable def xk_X1_init (ct : Nat → Bool) (K : Kt) (R : Option AV → Hp → Prop) (n : Nat) : Kt := exkS 1 4 4 603 0 tb_X1_init mt_X1_init ct K R n
theorem xt_X1_init {ct : Nat → Bool} {K : Kt} {R : Option AV → Hp → Prop} {n pc : Nat} {ls : List (Option AV)} {st : List AV} {σ : Hp} {k : Nat × Nat} (h : ct pc = true) : xk_X1_init ct K R n pc ls st σ k = K pc ls st σ k := by unfold xk_X1_init exkS; rw [h]
theorem xf_X1_init {ct : Nat → Bool} {K : Kt} {R : Option AV → Hp → Prop} {n pc : Nat} {ls : List (Option AV)} {st : List AV} {σ : Hp} {k : Nat × Nat} (h : ct pc = false) : xk_X1_init ct K R n pc ls st σ k = xe_X1_init ct K R n pc ls st σ k := by unfold xk_X1_init exkS xe_X1_init; rw [h]
theorem ev_X1_init_0 {ct : Nat → Bool} {K : Kt} {R : Option AV → Hp → Prop} {n : Nat} {ls : List (Option AV)} {st : List AV} {σ : Hp} {k : Nat × Nat} : xe_X1_init ct K R (n + 1) 0 ls st σ k = (lR ls 0 fun x => xk_X1_init ct K R n 1 ls (vr x :: st) σ k) := exS_step.trans rfl
theorem ev_X1_init_1 {ct : Nat → Bool} {K : Kt} {R : Option AV → Hp → Prop} {n : Nat} {ls : List (Option AV)} {st : List AV} {σ : Hp} {k : Nat × Nat} : xe_X1_init ct K R (n + 1) 1 ls st σ k = (popN 1 st [] fun av rest => (catS rest ≤ 8 ∧ 0 < 4 ∧ k.1 + 0 ≤ 4 ∧ k.2 + 0 ≤ 603) ∧ (spObj) av σ fun v σ' => xk_X1_init ct K R n 4 ls (v.toList ++ rest) σ' (k.1 + 0, k.2 + 0)) := exS_step.trans rfl
theorem ev_X1_init_4 {ct : Nat → Bool} {K : Kt} {R : Option AV → Hp → Prop} {n : Nat} {ls : List (Option AV)} {st : List AV} {σ : Hp} {k : Nat × Nat} : xe_X1_init ct K R (n + 1) 4 ls st σ k = (lR ls 0 fun x => xk_X1_init ct K R n 5 ls (vr x :: st) σ k) := exS_step.trans rfl
theorem ev_X1_init_5 {ct : Nat → Bool} {K : Kt} {R : Option AV → Hp → Prop} {n : Nat} {ls : List (Option AV)} {st : List AV} {σ : Hp} {k : Nat × Nat} : xe_X1_init ct K R (n + 1) 5 ls st σ k = ((k.1 + 1 ≤ 4 ∧ k.2 + 3 ≤ 603) ∧ xk_X1_init ct K R n 8 ls (vr (nx σ) :: st) (mk σ 14 0) (k.1 + 1, k.2 + 3)) := exS_step.trans rfl
theorem ev_X1_init_8 {ct : Nat → Bool} {K : Kt} {R : Option AV → Hp → Prop} {n : Nat} {ls : List (Option AV)} {st : List AV} {σ : Hp} {k : Nat × Nat} : xe_X1_init ct K R (n + 1) 8 ls st σ k = (o1 st fun v st => xk_X1_init ct K R n 9 ls (v :: v :: st) σ k) := exS_step.trans rfl
theorem ev_X1_init_9 {ct : Nat → Bool} {K : Kt} {R : Option AV → Hp → Prop} {n : Nat} {ls : List (Option AV)} {st : List AV} {σ : Hp} {k : Nat × Nat} : xe_X1_init ct K R (n + 1) 9 ls st σ k = (popN 1 st [] fun av rest => (catS rest ≤ 8 ∧ 3 < 4 ∧ k.1 + 0 ≤ 4 ∧ k.2 + 0 ≤ 603) ∧ (sp_Jx4a65c_init_da8c8) av σ fun v σ' => xk_X1_init ct K R n 12 ls (v.toList ++ rest) σ' (k.1 + 0, k.2 + 0)) := exS_step.trans rfl
theorem ev_X1_init_12 {ct : Nat → Bool} {K : Kt} {R : Option AV → Hp → Prop} {n : Nat} {ls : List (Option AV)} {st : List AV} {σ : Hp} {k : Nat × Nat} : xe_X1_init ct K R (n + 1) 12 ls st σ k = (oR st fun v st => oR st fun x st => kd σ x = 2 ∧ xk_X1_init ct K R n 15 ls st (pR σ 200 x v) k) := exS_step.trans rfl
theorem ev_X1_init_15 {ct : Nat → Bool} {K : Kt} {R : Option AV → Hp → Prop} {n : Nat} {ls : List (Option AV)} {st : List AV} {σ : Hp} {k : Nat × Nat} : xe_X1_init ct K R (n + 1) 15 ls st σ k = (lR ls 0 fun x => xk_X1_init ct K R n 16 ls (vr x :: st) σ k) := exS_step.trans rfl
theorem ev_X1_init_16 {ct : Nat → Bool} {K : Kt} {R : Option AV → Hp → Prop} {n : Nat} {ls : List (Option AV)} {st : List AV} {σ : Hp} {k : Nat × Nat} : xe_X1_init ct K R (n + 1) 16 ls st σ k = (xk_X1_init ct K R n 19 ls (vi (200) :: st) σ k) := exS_step.trans rfl
theorem ev_X1_init_19 {ct : Nat → Bool} {K : Kt} {R : Option AV → Hp → Prop} {n : Nat} {ls : List (Option AV)} {st : List AV} {σ : Hp} {k : Nat × Nat} : xe_X1_init ct K R (n + 1) 19 ls st σ k = (oI st fun m st => (0 ≤ m ∧ m ≤ 65536) ∧ (k.1 + 1 ≤ 4 ∧ k.2 + m.toNat ≤ 603) ∧ xk_X1_init ct K R n 21 ls (vr (nx σ) :: st) (mk σ 101 m) (k.1 + 1, k.2 + m.toNat)) := exS_step.trans rfl
theorem ev_X1_init_21 {ct : Nat → Bool} {K : Kt} {R : Option AV → Hp → Prop} {n : Nat} {ls : List (Option AV)} {st : List AV} {σ : Hp} {k : Nat × Nat} : xe_X1_init ct K R (n + 1) 21 ls st σ k = (oR st fun v st => oR st fun x st => kd σ x = 2 ∧ xk_X1_init ct K R n 24 ls st (pR σ 201 x v) k) := exS_step.trans rfl
theorem ev_X1_init_24 {ct : Nat → Bool} {K : Kt} {R : Option AV → Hp → Prop} {n : Nat} {ls : List (Option AV)} {st : List AV} {σ : Hp} {k : Nat × Nat} : xe_X1_init ct K R (n + 1) 24 ls st σ k = (lR ls 0 fun x => xk_X1_init ct K R n 25 ls (vr x :: st) σ k) := exS_step.trans rfl
theorem ev_X1_init_25 {ct : Nat → Bool} {K : Kt} {R : Option AV → Hp → Prop} {n : Nat} {ls : List (Option AV)} {st : List AV} {σ : Hp} {k : Nat × Nat} : xe_X1_init ct K R (n + 1) 25 ls st σ k = (xk_X1_init ct K R n 28 ls (vi (200) :: st) σ k) := exS_step.trans rfl
theorem ev_X1_init_28 {ct : Nat → Bool} {K : Kt} {R : Option AV → Hp → Prop} {n : Nat} {ls : List (Option AV)} {st : List AV} {σ : Hp} {k : Nat × Nat} : xe_X1_init ct K R (n + 1) 28 ls st σ k = (oI st fun m st => (0 ≤ m ∧ m ≤ 65536) ∧ (k.1 + 1 ≤ 4 ∧ k.2 + m.toNat ≤ 603) ∧ xk_X1_init ct K R n 30 ls (vr (nx σ) :: st) (mk σ 101 m) (k.1 + 1, k.2 + m.toNat)) := exS_step.trans rfl
theorem ev_X1_init_30 {ct : Nat → Bool} {K : Kt} {R : Option AV → Hp → Prop} {n : Nat} {ls : List (Option AV)} {st : List AV} {σ : Hp} {k : Nat × Nat} : xe_X1_init ct K R (n + 1) 30 ls st σ k = (oR st fun v st => oR st fun x st => kd σ x = 2 ∧ xk_X1_init ct K R n 33 ls st (pR σ 202 x v) k) := exS_step.trans rfl
theorem ev_X1_init_33 {ct : Nat → Bool} {K : Kt} {R : Option AV → Hp → Prop} {n : Nat} {ls : List (Option AV)} {st : List AV} {σ : Hp} {k : Nat × Nat} : xe_X1_init ct K R (n + 1) 33 ls st σ k = (lR ls 0 fun x => xk_X1_init ct K R n 34 ls (vr x :: st) σ k) := exS_step.trans rfl
theorem ev_X1_init_34 {ct : Nat → Bool} {K : Kt} {R : Option AV → Hp → Prop} {n : Nat} {ls : List (Option AV)} {st : List AV} {σ : Hp} {k : Nat × Nat} : xe_X1_init ct K R (n + 1) 34 ls st σ k = (xk_X1_init ct K R n 37 ls (vi (200) :: st) σ k) := exS_step.trans rfl
theorem ev_X1_init_37 {ct : Nat → Bool} {K : Kt} {R : Option AV → Hp → Prop} {n : Nat} {ls : List (Option AV)} {st : List AV} {σ : Hp} {k : Nat × Nat} : xe_X1_init ct K R (n + 1) 37 ls st σ k = (oI st fun m st => (0 ≤ m ∧ m ≤ 65536) ∧ (k.1 + 1 ≤ 4 ∧ k.2 + m.toNat ≤ 603) ∧ xk_X1_init ct K R n 39 ls (vr (nx σ) :: st) (mk σ 103 m) (k.1 + 1, k.2 + m.toNat)) := exS_step.trans rfl
theorem ev_X1_init_39 {ct : Nat → Bool} {K : Kt} {R : Option AV → Hp → Prop} {n : Nat} {ls : List (Option AV)} {st : List AV} {σ : Hp} {k : Nat × Nat} : xe_X1_init ct K R (n + 1) 39 ls st σ k = (oR st fun v st => oR st fun x st => kd σ x = 2 ∧ xk_X1_init ct K R n 42 ls st (pR σ 203 x v) k) := exS_step.trans rfl
theorem ev_X1_init_42 {ct : Nat → Bool} {K : Kt} {R : Option AV → Hp → Prop} {n : Nat} {ls : List (Option AV)} {st : List AV} {σ : Hp} {k : Nat × Nat} : xe_X1_init ct K R (n + 1) 42 ls st σ k = (lR ls 0 fun x => xk_X1_init ct K R n 43 ls (vr x :: st) σ k) := exS_step.trans rfl
theorem ev_X1_init_43 {ct : Nat → Bool} {K : Kt} {R : Option AV → Hp → Prop} {n : Nat} {ls : List (Option AV)} {st : List AV} {σ : Hp} {k : Nat × Nat} : xe_X1_init ct K R (n + 1) 43 ls st σ k = (xk_X1_init ct K R n 44 ls (vi (0) :: st) σ k) := exS_step.trans rfl
theorem ev_X1_init_44 {ct : Nat → Bool} {K : Kt} {R : Option AV → Hp → Prop} {n : Nat} {ls : List (Option AV)} {st : List AV} {σ : Hp} {k : Nat × Nat} : xe_X1_init ct K R (n + 1) 44 ls st σ k = (oI st fun v st => oR st fun x st => kd σ x = 2 ∧ xk_X1_init ct K R n 47 ls st (pI σ 204 x v) k) := exS_step.trans rfl
theorem ev_X1_init_47 {ct : Nat → Bool} {K : Kt} {R : Option AV → Hp → Prop} {n : Nat} {ls : List (Option AV)} {st : List AV} {σ : Hp} {k : Nat × Nat} : xe_X1_init ct K R (n + 1) 47 ls st σ k = (st = [] ∧ 0 = 0 ∧ R none σ) := exS_step.trans rfl
def M_X1_init : Md := (yX1_init, cX1_init, 1, (none : Option FieldType), 4, 4, 603, 0, true, tb_X1_init, mt_X1_init)
theorem mm_X1_init : MMOK M_X1_init := ⟨by decide +kernel, tk_X1_init, mk_X1_init, rfl, fun _ => rfl⟩
theorem go_X1_init {Q : Option AV → Hp → Prop} {ct : Nat → Bool} {pc : Nat} {ls : List (Option AV)} {st : List AV} {σ : Hp} {k : Nat × Nat} (n : Nat) (h : xe_X1_init ct (Go M_X1_init Q) Q n pc ls st σ k) : Go M_X1_init Q pc ls st σ k := Go.exS mm_X1_init h

set_option maxRecDepth 20000 in
theorem c_X1_init : Ct yX1_init cX1_init 1 ((none : Option FieldType)) 4 4 603 sp_X1_init := by
  refine Ct.go (M := M_X1_init) mm_X1_init fun av σ Q h0 => ?_
  obtain ⟨this, rfl, hk, h⟩ := el_X1_init h0
  clear h0
  refine ⟨Nat.le_of_ble_eq_true rfl, ?_⟩
  show Go M_X1_init Q 0 [some (vr this)] [] σ (0, 0)
  obtain ⟨σ0, LL, RR, II, AA, hi, h⟩ := h
  have hn := hi.1
  refine Go.wf fun hw => ?_
  have hz : ¬ this = 0 := (hw.2.1 this (by omega)).1
  have hz1 : this < nx σ := (hw.2.1 this (by omega)).2.1
  have hy0 : ¬ this = nx σ := by omega
  have hy1 : ¬ this = nx σ + 1 := by omega
  have hy2 : ¬ this = nx σ + 1 + 1 := by omega
  have hy3 : ¬ this = nx σ + 1 + 1 + 1 := by omega
  refine go_X1_init (ct := fun p => p == 299) 80 ?_
  simp only [oI, oL, oR, o1, lI, lL, lR, popN, catS, gv, stL, stL2, swt, cnd, spObj, List.getElem?_cons_zero, List.getElem?_cons_succ, List.getD_cons_zero, List.getD_cons_succ, List.set_cons_zero, List.set_cons_succ, List.nil_append, List.cons_append, Option.toList, Bool.or_false, Bool.false_or, Bool.or_true, Bool.true_or, Nat.reduceBEq, Nat.reduceAdd, Nat.reduceLT, Nat.reduceLeDiff, Int.reduceAdd, Int.reduceToNat, true_and, and_true, Fin.isValue, Fin.val_zero, Fin.val_one, Fin.val_two, Fin.reduceFinMk, eq_self, Int.reduceNeg, imp_self, Nat.reduceMul, Nat.le_refl, not_true_eq_false, not_false_eq_true, List.getElem?_nil, reduceCtorEq, true_or, or_true, Classical.not_not, implies_true, or_self, wI_0, wI_1, wI_m1, b2i_w, b2i_eq0, b2i_eq1, b2i_bool, nor_self, nx_pI, kd_pI, ln_pI, fI_pI, fL_pI, fR_pI, aI_pI, aL_pI, aR_pI, nx_pL, kd_pL, ln_pL, fI_pL, fL_pL, fR_pL, aI_pL, aL_pL, aR_pL, nx_pR, kd_pR, ln_pR, fI_pR, fL_pR, fR_pR, aI_pR, aL_pR, aR_pR, nx_qI, kd_qI, ln_qI, fI_qI, fL_qI, fR_qI, aI_qI, aL_qI, aR_qI, nx_qL, kd_qL, ln_qL, fI_qL, fL_qL, fR_qL, aI_qL, aL_qL, aR_qL, nx_qR, kd_qR, ln_qR, fI_qR, fL_qR, fR_qR, aI_qR, aL_qR, aR_qR, nx_mk, kd_mk, ln_mk, fI_mk, fL_mk, fR_mk, aI_mk, aL_mk, aR_mk, false_and, and_false, if_false, if_true, and_self, Int.reduceEq, Nat.reduceEqDiff, ite_self, MLay_pI, MLay_pL, MLay_qI, MLay_qL, ev_X1_init_0, ev_X1_init_1, ev_X1_init_4, ev_X1_init_5, ev_X1_init_8, ev_X1_init_9, ev_X1_init_12, ev_X1_init_15, ev_X1_init_16, ev_X1_init_19, ev_X1_init_21, ev_X1_init_24, ev_X1_init_25, ev_X1_init_28, ev_X1_init_30, ev_X1_init_33, ev_X1_init_34, ev_X1_init_37, ev_X1_init_39, ev_X1_init_42, ev_X1_init_43, ev_X1_init_44, ev_X1_init_47, xt_X1_init, xf_X1_init, us_Jx4a65c_init_da8c8, hk, hy0, hy1, hy2, hy3]
  repeat' (first | intro z | apply And.intro)
  all_goals try omega
  all_goals try contradiction
  all_goals first | exact hz | (refine h _ ?_; (repeat' (first | exact hi | (refine Ini.pI' (by omega) (by omega) ?_) | (refine Ini.pR' (by decide) (by omega) (by first | omega | exact hi.ee) ?_) | (refine Ini.qR' (by omega) (by omega) (by omega) ?_) | refine Ini.mk' ?_)))

def sp_X3_init : Sp := fun av σ Q => oR av fun this av => av = [] ∧ kd σ this = 4 ∧ (∃ (σ0 : Hp) (LL : List (Nat × Int)) (RR II : List ((Nat × Int) × Int)) (AA : List ((Int × Int) × Int)), Ini σ0 σ LL RR II AA ∧ ∀ σ9, Ini σ0 σ9 (LL ++ [(101, 12)] ++ [(101, 12)] ++ [(14, 0)]) (((402, this), 1 + (LL.length : Int) + 2) :: ((1401, 1 + (LL.length : Int) + 2), fR σ0 3000 0) :: ((401, this), 1 + (LL.length : Int) + 1) :: ((400, this), 1 + (LL.length : Int)) :: RR) (((405, this), 40) :: ((404, this), 3) :: ((403, this), 0) :: ((1400, 1 + (LL.length : Int) + 2), 0) :: II) AA → Q none σ9)
theorem us_X3_init (this : Int) (σ : Hp) (Q : Option AV → Hp → Prop) : sp_X3_init [vr this] σ Q = (kd σ this = 4 ∧ (∃ (σ0 : Hp) (LL : List (Nat × Int)) (RR II : List ((Nat × Int) × Int)) (AA : List ((Int × Int) × Int)), Ini σ0 σ LL RR II AA ∧ ∀ σ9, Ini σ0 σ9 (LL ++ [(101, 12)] ++ [(101, 12)] ++ [(14, 0)]) (((402, this), 1 + (LL.length : Int) + 2) :: ((1401, 1 + (LL.length : Int) + 2), fR σ0 3000 0) :: ((401, this), 1 + (LL.length : Int) + 1) :: ((400, this), 1 + (LL.length : Int)) :: RR) (((405, this), 40) :: ((404, this), 3) :: ((403, this), 0) :: ((1400, 1 + (LL.length : Int) + 2), 0) :: II) AA → Q none σ9)) := propext ⟨fun h => h.2, fun h => ⟨rfl, h⟩⟩
theorem el_X3_init {av : List AV} {σ : Hp} {Q : Option AV → Hp → Prop} (h : sp_X3_init av σ Q) : ∃ (this : Int), av = [vr this] ∧ (kd σ this = 4 ∧ (∃ (σ0 : Hp) (LL : List (Nat × Int)) (RR II : List ((Nat × Int) × Int)) (AA : List ((Int × Int) × Int)), Ini σ0 σ LL RR II AA ∧ ∀ σ9, Ini σ0 σ9 (LL ++ [(101, 12)] ++ [(101, 12)] ++ [(14, 0)]) (((402, this), 1 + (LL.length : Int) + 2) :: ((1401, 1 + (LL.length : Int) + 2), fR σ0 3000 0) :: ((401, this), 1 + (LL.length : Int) + 1) :: ((400, this), 1 + (LL.length : Int)) :: RR) (((405, this), 40) :: ((404, this), 3) :: ((403, this), 0) :: ((1400, 1 + (LL.length : Int) + 2), 0) :: II) AA → Q none σ9)) := by
  obtain ⟨this, a0, rfl, h0⟩ := oR_s h
  obtain ⟨rfl, hz⟩ := h0
  exact ⟨this, rfl, hz⟩
theorem rc_X3_init : ∀ (av : List AV) (σ : Hp) (Q : Option AV → Hp → Prop), sp_X3_init av σ Q → ∃ r tl, av = vr r :: tl ∧ kd σ r = 3 + 1 := fun av σ Q h => by
  obtain ⟨this, rfl, hz, -⟩ := el_X3_init h
  exact ⟨this, _, rfl, hz⟩
theorem rcn_X3_init : ∀ (av : List AV) (σ : Hp) (Q : Option AV → Hp → Prop), sp_X3_init av σ Q → ∃ r tl, av = vr r :: tl ∧ kd σ r ≠ 0 := fun av σ Q h => by
  obtain ⟨r, tl, e, hz⟩ := rc_X3_init av σ Q h
  exact ⟨r, tl, e, by omega⟩

def tb_X3_init : Tab := [(0, .aload_n 0, 1, (0, 0, 0, 0)), (1, .invokespecial 3, 3, (0, 0, 0, 0)), (4, .aload_n 0, 1, (0, 0, 0, 0)), (5, .bipush 12, 2, (0, 0, 0, 0)), (7, .newarray .int, 2, (101, 0, 0, 0)), (9, .putfield 9, 3, (4, 400, 2, 0)), (12, .aload_n 0, 1, (0, 0, 0, 0)), (13, .bipush 12, 2, (0, 0, 0, 0)), (15, .newarray .int, 2, (101, 0, 0, 0)), (17, .putfield 15, 3, (4, 401, 2, 0)), (20, .aload_n 0, 1, (0, 0, 0, 0)), (21, .new 18, 3, (14, 3, 0, 0)), (24, .dup, 1, (0, 0, 0, 0)), (25, .invokespecial 20, 3, (0, 0, 0, 0)), (28, .putfield 21, 3, (4, 402, 2, 0)), (31, .aload_n 0, 1, (0, 0, 0, 0)), (32, .iconst 0, 1, (0, 0, 0, 0)), (33, .putfield 25, 3, (4, 403, 0, 0)), (36, .aload_n 0, 1, (0, 0, 0, 0)), (37, .iconst 3, 1, (0, 0, 0, 0)), (38, .putfield 29, 3, (4, 404, 0, 0)), (41, .aload_n 0, 1, (0, 0, 0, 0)), (42, .bipush 40, 2, (0, 0, 0, 0)), (44, .putfield 32, 3, (4, 405, 0, 0)), (47, .return_, 1, (0, 0, 0, 0))]
set_option maxRecDepth 100000 in
theorem tk_X3_init : TOK RX3 true cX3_init tb_X3_init := chkT_ok ft_X3 (by decide +kernel)
theorem rw_X3_26 : Row RX3 (.invokespecial 3) 3 1 0 0 0 spObj := row_obj (TBL_in 231 (by decide +kernel) rfl) (TBL_in 148 (by decide +kernel) rfl) (TBL_in 149 (by decide +kernel) rfl)
theorem rw_X3_162 : Row RX3 (.invokespecial 20) 3 1 0 0 3 sp_Jx4a65c_init_da8c8 := row_I (n := 0) c_Jx4a65c_init_da8c8 ⟨TBL_in 233 (by decide +kernel) rfl, TBL_in 164 (by decide +kernel) rfl, TBL_in 115 (by decide +kernel) rfl, by decide +kernel, by decide⟩ (TBL_in 163 (by decide +kernel) rfl) rfl (rcn_Jx4a65c_init_da8c8)
def mt_X3_init : List (Nat × Mt) := [(26, 1, 0, 0, 0, spObj), (162, 1, 0, 0, 3, sp_Jx4a65c_init_da8c8)]
theorem em_X3_init : mt_X3_init.lookup 26 = some (1, 0, 0, 0, spObj) ∧ mt_X3_init.lookup 162 = some (1, 0, 0, 3, sp_Jx4a65c_init_da8c8) := ⟨rfl, rfl⟩
theorem mk_X3_init : MOK RX3 mt_X3_init := by
  intro q hq
  simp only [mt_X3_init, List.mem_cons, List.not_mem_nil, or_false] at hq
  rcases hq with rfl | rfl
  · exact rw_X3_26
  · exact rw_X3_162
noncomputable def xe_X3_init (ct : Nat → Bool) (K : Kt) (R : Option AV → Hp → Prop) (n : Nat) : Kt := exS 1 4 3 27 0 tb_X3_init mt_X3_init ct K R n
noncomputable def xk_X3_init (ct : Nat → Bool) (K : Kt) (R : Option AV → Hp → Prop) (n : Nat) : Kt := exkS 1 4 3 27 0 tb_X3_init mt_X3_init ct K R n
theorem xt_X3_init {ct : Nat → Bool} {K : Kt} {R : Option AV → Hp → Prop} {n pc : Nat} {ls : List (Option AV)} {st : List AV} {σ : Hp} {k : Nat × Nat} (h : ct pc = true) : xk_X3_init ct K R n pc ls st σ k = K pc ls st σ k := by unfold xk_X3_init exkS; rw [h]
theorem xf_X3_init {ct : Nat → Bool} {K : Kt} {R : Option AV → Hp → Prop} {n pc : Nat} {ls : List (Option AV)} {st : List AV} {σ : Hp} {k : Nat × Nat} (h : ct pc = false) : xk_X3_init ct K R n pc ls st σ k = xe_X3_init ct K R n pc ls st σ k := by unfold xk_X3_init exkS xe_X3_init; rw [h]
theorem ev_X3_init_0 {ct : Nat → Bool} {K : Kt} {R : Option AV → Hp → Prop} {n : Nat} {ls : List (Option AV)} {st : List AV} {σ : Hp} {k : Nat × Nat} : xe_X3_init ct K R (n + 1) 0 ls st σ k = (lR ls 0 fun x => xk_X3_init ct K R n 1 ls (vr x :: st) σ k) := exS_step.trans rfl
theorem ev_X3_init_1 {ct : Nat → Bool} {K : Kt} {R : Option AV → Hp → Prop} {n : Nat} {ls : List (Option AV)} {st : List AV} {σ : Hp} {k : Nat × Nat} : xe_X3_init ct K R (n + 1) 1 ls st σ k = (popN 1 st [] fun av rest => (catS rest ≤ 8 ∧ 0 < 4 ∧ k.1 + 0 ≤ 3 ∧ k.2 + 0 ≤ 27) ∧ (spObj) av σ fun v σ' => xk_X3_init ct K R n 4 ls (v.toList ++ rest) σ' (k.1 + 0, k.2 + 0)) := exS_step.trans rfl
theorem ev_X3_init_4 {ct : Nat → Bool} {K : Kt} {R : Option AV → Hp → Prop} {n : Nat} {ls : List (Option AV)} {st : List AV} {σ : Hp} {k : Nat × Nat} : xe_X3_init ct K R (n + 1) 4 ls st σ k = (lR ls 0 fun x => xk_X3_init ct K R n 5 ls (vr x :: st) σ k) := exS_step.trans rfl
theorem ev_X3_init_5 {ct : Nat → Bool} {K : Kt} {R : Option AV → Hp → Prop} {n : Nat} {ls : List (Option AV)} {st : List AV} {σ : Hp} {k : Nat × Nat} : xe_X3_init ct K R (n + 1) 5 ls st σ k = (xk_X3_init ct K R n 7 ls (vi (12) :: st) σ k) := exS_step.trans rfl
theorem ev_X3_init_7 {ct : Nat → Bool} {K : Kt} {R : Option AV → Hp → Prop} {n : Nat} {ls : List (Option AV)} {st : List AV} {σ : Hp} {k : Nat × Nat} : xe_X3_init ct K R (n + 1) 7 ls st σ k = (oI st fun m st => (0 ≤ m ∧ m ≤ 65536) ∧ (k.1 + 1 ≤ 3 ∧ k.2 + m.toNat ≤ 27) ∧ xk_X3_init ct K R n 9 ls (vr (nx σ) :: st) (mk σ 101 m) (k.1 + 1, k.2 + m.toNat)) := exS_step.trans rfl
theorem ev_X3_init_9 {ct : Nat → Bool} {K : Kt} {R : Option AV → Hp → Prop} {n : Nat} {ls : List (Option AV)} {st : List AV} {σ : Hp} {k : Nat × Nat} : xe_X3_init ct K R (n + 1) 9 ls st σ k = (oR st fun v st => oR st fun x st => kd σ x = 4 ∧ xk_X3_init ct K R n 12 ls st (pR σ 400 x v) k) := exS_step.trans rfl
theorem ev_X3_init_12 {ct : Nat → Bool} {K : Kt} {R : Option AV → Hp → Prop} {n : Nat} {ls : List (Option AV)} {st : List AV} {σ : Hp} {k : Nat × Nat} : xe_X3_init ct K R (n + 1) 12 ls st σ k = (lR ls 0 fun x => xk_X3_init ct K R n 13 ls (vr x :: st) σ k) := exS_step.trans rfl
theorem ev_X3_init_13 {ct : Nat → Bool} {K : Kt} {R : Option AV → Hp → Prop} {n : Nat} {ls : List (Option AV)} {st : List AV} {σ : Hp} {k : Nat × Nat} : xe_X3_init ct K R (n + 1) 13 ls st σ k = (xk_X3_init ct K R n 15 ls (vi (12) :: st) σ k) := exS_step.trans rfl
theorem ev_X3_init_15 {ct : Nat → Bool} {K : Kt} {R : Option AV → Hp → Prop} {n : Nat} {ls : List (Option AV)} {st : List AV} {σ : Hp} {k : Nat × Nat} : xe_X3_init ct K R (n + 1) 15 ls st σ k = (oI st fun m st => (0 ≤ m ∧ m ≤ 65536) ∧ (k.1 + 1 ≤ 3 ∧ k.2 + m.toNat ≤ 27) ∧ xk_X3_init ct K R n 17 ls (vr (nx σ) :: st) (mk σ 101 m) (k.1 + 1, k.2 + m.toNat)) := exS_step.trans rfl
theorem ev_X3_init_17 {ct : Nat → Bool} {K : Kt} {R : Option AV → Hp → Prop} {n : Nat} {ls : List (Option AV)} {st : List AV} {σ : Hp} {k : Nat × Nat} : xe_X3_init ct K R (n + 1) 17 ls st σ k = (oR st fun v st => oR st fun x st => kd σ x = 4 ∧ xk_X3_init ct K R n 20 ls st (pR σ 401 x v) k) := exS_step.trans rfl
theorem ev_X3_init_20 {ct : Nat → Bool} {K : Kt} {R : Option AV → Hp → Prop} {n : Nat} {ls : List (Option AV)} {st : List AV} {σ : Hp} {k : Nat × Nat} : xe_X3_init ct K R (n + 1) 20 ls st σ k = (lR ls 0 fun x => xk_X3_init ct K R n 21 ls (vr x :: st) σ k) := exS_step.trans rfl
theorem ev_X3_init_21 {ct : Nat → Bool} {K : Kt} {R : Option AV → Hp → Prop} {n : Nat} {ls : List (Option AV)} {st : List AV} {σ : Hp} {k : Nat × Nat} : xe_X3_init ct K R (n + 1) 21 ls st σ k = ((k.1 + 1 ≤ 3 ∧ k.2 + 3 ≤ 27) ∧ xk_X3_init ct K R n 24 ls (vr (nx σ) :: st) (mk σ 14 0) (k.1 + 1, k.2 + 3)) := exS_step.trans rfl
theorem ev_X3_init_24 {ct : Nat → Bool} {K : Kt} {R : Option AV → Hp → Prop} {n : Nat} {ls : List (Option AV)} {st : List AV} {σ : Hp} {k : Nat × Nat} : xe_X3_init ct K R (n + 1) 24 ls st σ k = (o1 st fun v st => xk_X3_init ct K R n 25 ls (v :: v :: st) σ k) := exS_step.trans rfl
theorem ev_X3_init_25 {ct : Nat → Bool} {K : Kt} {R : Option AV → Hp → Prop} {n : Nat} {ls : List (Option AV)} {st : List AV} {σ : Hp} {k : Nat × Nat} : xe_X3_init ct K R (n + 1) 25 ls st σ k = (popN 1 st [] fun av rest => (catS rest ≤ 8 ∧ 3 < 4 ∧ k.1 + 0 ≤ 3 ∧ k.2 + 0 ≤ 27) ∧ (sp_Jx4a65c_init_da8c8) av σ fun v σ' => xk_X3_init ct K R n 28 ls (v.toList ++ rest) σ' (k.1 + 0, k.2 + 0)) := exS_step.trans rfl
theorem ev_X3_init_28 {ct : Nat → Bool} {K : Kt} {R : Option AV → Hp → Prop} {n : Nat} {ls : List (Option AV)} {st : List AV} {σ : Hp} {k : Nat × Nat} : xe_X3_init ct K R (n + 1) 28 ls st σ k = (oR st fun v st => oR st fun x st => kd σ x = 4 ∧ xk_X3_init ct K R n 31 ls st (pR σ 402 x v) k) := exS_step.trans rfl
theorem ev_X3_init_31 {ct : Nat → Bool} {K : Kt} {R : Option AV → Hp → Prop} {n : Nat} {ls : List (Option AV)} {st : List AV} {σ : Hp} {k : Nat × Nat} : xe_X3_init ct K R (n + 1) 31 ls st σ k = (lR ls 0 fun x => xk_X3_init ct K R n 32 ls (vr x :: st) σ k) := exS_step.trans rfl
theorem ev_X3_init_32 {ct : Nat → Bool} {K : Kt} {R : Option AV → Hp → Prop} {n : Nat} {ls : List (Option AV)} {st : List AV} {σ : Hp} {k : Nat × Nat} : xe_X3_init ct K R (n + 1) 32 ls st σ k = (xk_X3_init ct K R n 33 ls (vi (0) :: st) σ k) := exS_step.trans rfl
theorem ev_X3_init_33 {ct : Nat → Bool} {K : Kt} {R : Option AV → Hp → Prop} {n : Nat} {ls : List (Option AV)} {st : List AV} {σ : Hp} {k : Nat × Nat} : xe_X3_init ct K R (n + 1) 33 ls st σ k = (oI st fun v st => oR st fun x st => kd σ x = 4 ∧ xk_X3_init ct K R n 36 ls st (pI σ 403 x v) k) := exS_step.trans rfl
theorem ev_X3_init_36 {ct : Nat → Bool} {K : Kt} {R : Option AV → Hp → Prop} {n : Nat} {ls : List (Option AV)} {st : List AV} {σ : Hp} {k : Nat × Nat} : xe_X3_init ct K R (n + 1) 36 ls st σ k = (lR ls 0 fun x => xk_X3_init ct K R n 37 ls (vr x :: st) σ k) := exS_step.trans rfl
theorem ev_X3_init_37 {ct : Nat → Bool} {K : Kt} {R : Option AV → Hp → Prop} {n : Nat} {ls : List (Option AV)} {st : List AV} {σ : Hp} {k : Nat × Nat} : xe_X3_init ct K R (n + 1) 37 ls st σ k = (xk_X3_init ct K R n 38 ls (vi (3) :: st) σ k) := exS_step.trans rfl
theorem ev_X3_init_38 {ct : Nat → Bool} {K : Kt} {R : Option AV → Hp → Prop} {n : Nat} {ls : List (Option AV)} {st : List AV} {σ : Hp} {k : Nat × Nat} : xe_X3_init ct K R (n + 1) 38 ls st σ k = (oI st fun v st => oR st fun x st => kd σ x = 4 ∧ xk_X3_init ct K R n 41 ls st (pI σ 404 x v) k) := exS_step.trans rfl
theorem ev_X3_init_41 {ct : Nat → Bool} {K : Kt} {R : Option AV → Hp → Prop} {n : Nat} {ls : List (Option AV)} {st : List AV} {σ : Hp} {k : Nat × Nat} : xe_X3_init ct K R (n + 1) 41 ls st σ k = (lR ls 0 fun x => xk_X3_init ct K R n 42 ls (vr x :: st) σ k) := exS_step.trans rfl
theorem ev_X3_init_42 {ct : Nat → Bool} {K : Kt} {R : Option AV → Hp → Prop} {n : Nat} {ls : List (Option AV)} {st : List AV} {σ : Hp} {k : Nat × Nat} : xe_X3_init ct K R (n + 1) 42 ls st σ k = (xk_X3_init ct K R n 44 ls (vi (40) :: st) σ k) := exS_step.trans rfl
theorem ev_X3_init_44 {ct : Nat → Bool} {K : Kt} {R : Option AV → Hp → Prop} {n : Nat} {ls : List (Option AV)} {st : List AV} {σ : Hp} {k : Nat × Nat} : xe_X3_init ct K R (n + 1) 44 ls st σ k = (oI st fun v st => oR st fun x st => kd σ x = 4 ∧ xk_X3_init ct K R n 47 ls st (pI σ 405 x v) k) := exS_step.trans rfl
theorem ev_X3_init_47 {ct : Nat → Bool} {K : Kt} {R : Option AV → Hp → Prop} {n : Nat} {ls : List (Option AV)} {st : List AV} {σ : Hp} {k : Nat × Nat} : xe_X3_init ct K R (n + 1) 47 ls st σ k = (st = [] ∧ 0 = 0 ∧ R none σ) := exS_step.trans rfl
def M_X3_init : Md := (yX3_init, cX3_init, 1, (none : Option FieldType), 4, 3, 27, 0, true, tb_X3_init, mt_X3_init)
theorem mm_X3_init : MMOK M_X3_init := ⟨by decide +kernel, tk_X3_init, mk_X3_init, rfl, fun _ => rfl⟩
theorem go_X3_init {Q : Option AV → Hp → Prop} {ct : Nat → Bool} {pc : Nat} {ls : List (Option AV)} {st : List AV} {σ : Hp} {k : Nat × Nat} (n : Nat) (h : xe_X3_init ct (Go M_X3_init Q) Q n pc ls st σ k) : Go M_X3_init Q pc ls st σ k := Go.exS mm_X3_init h

set_option maxRecDepth 20000 in
theorem c_X3_init : Ct yX3_init cX3_init 1 ((none : Option FieldType)) 4 3 27 sp_X3_init := by
  refine Ct.go (M := M_X3_init) mm_X3_init fun av σ Q h0 => ?_
  obtain ⟨this, rfl, hk, h⟩ := el_X3_init h0
  clear h0
  refine ⟨Nat.le_of_ble_eq_true rfl, ?_⟩
  show Go M_X3_init Q 0 [some (vr this)] [] σ (0, 0)
  obtain ⟨σ0, LL, RR, II, AA, hi, h⟩ := h
  have hn := hi.1
  refine Go.wf fun hw => ?_
  have hz : ¬ this = 0 := (hw.2.1 this (by omega)).1
  have hz1 : this < nx σ := (hw.2.1 this (by omega)).2.1
  have hy0 : ¬ this = nx σ := by omega
  have hy1 : ¬ this = nx σ + 1 := by omega
  have hy2 : ¬ this = nx σ + 1 + 1 := by omega
  refine go_X3_init (ct := fun p => p == 299) 80 ?_
  simp only [oI, oL, oR, o1, lI, lL, lR, popN, catS, gv, stL, stL2, swt, cnd, spObj, List.getElem?_cons_zero, List.getElem?_cons_succ, List.getD_cons_zero, List.getD_cons_succ, List.set_cons_zero, List.set_cons_succ, List.nil_append, List.cons_append, Option.toList, Bool.or_false, Bool.false_or, Bool.or_true, Bool.true_or, Nat.reduceBEq, Nat.reduceAdd, Nat.reduceLT, Nat.reduceLeDiff, Int.reduceAdd, Int.reduceToNat, true_and, and_true, Fin.isValue, Fin.val_zero, Fin.val_one, Fin.val_two, Fin.reduceFinMk, eq_self, Int.reduceNeg, imp_self, Nat.reduceMul, Nat.le_refl, not_true_eq_false, not_false_eq_true, List.getElem?_nil, reduceCtorEq, true_or, or_true, Classical.not_not, implies_true, or_self, wI_0, wI_1, wI_m1, b2i_w, b2i_eq0, b2i_eq1, b2i_bool, nor_self, nx_pI, kd_pI, ln_pI, fI_pI, fL_pI, fR_pI, aI_pI, aL_pI, aR_pI, nx_pL, kd_pL, ln_pL, fI_pL, fL_pL, fR_pL, aI_pL, aL_pL, aR_pL, nx_pR, kd_pR, ln_pR, fI_pR, fL_pR, fR_pR, aI_pR, aL_pR, aR_pR, nx_qI, kd_qI, ln_qI, fI_qI, fL_qI, fR_qI, aI_qI, aL_qI, aR_qI, nx_qL, kd_qL, ln_qL, fI_qL, fL_qL, fR_qL, aI_qL, aL_qL, aR_qL, nx_qR, kd_qR, ln_qR, fI_qR, fL_qR, fR_qR, aI_qR, aL_qR, aR_qR, nx_mk, kd_mk, ln_mk, fI_mk, fL_mk, fR_mk, aI_mk, aL_mk, aR_mk, false_and, and_false, if_false, if_true, and_self, Int.reduceEq, Nat.reduceEqDiff, ite_self, MLay_pI, MLay_pL, MLay_qI, MLay_qL, ev_X3_init_0, ev_X3_init_1, ev_X3_init_4, ev_X3_init_5, ev_X3_init_7, ev_X3_init_9, ev_X3_init_12, ev_X3_init_13, ev_X3_init_15, ev_X3_init_17, ev_X3_init_20, ev_X3_init_21, ev_X3_init_24, ev_X3_init_25, ev_X3_init_28, ev_X3_init_31, ev_X3_init_32, ev_X3_init_33, ev_X3_init_36, ev_X3_init_37, ev_X3_init_38, ev_X3_init_41, ev_X3_init_42, ev_X3_init_44, ev_X3_init_47, xt_X3_init, xf_X3_init, us_Jx4a65c_init_da8c8, hk, hy0, hy1, hy2]
  repeat' (first | intro z | apply And.intro)
  all_goals try omega
  all_goals try contradiction
  all_goals first | exact hz | (refine h _ ?_; (repeat' (first | exact hi | (refine Ini.pI' (by omega) (by omega) ?_) | (refine Ini.pR' (by decide) (by omega) (by first | omega | exact hi.ee) ?_) | (refine Ini.qR' (by omega) (by omega) (by omega) ?_) | refine Ini.mk' ?_)))

def sp_X9_init : Sp := fun av σ Q => oR av fun this av => av = [] ∧ kd σ this = 10 ∧ (∃ (σ0 : Hp) (LL : List (Nat × Int)) (RR II : List ((Nat × Int) × Int)) (AA : List ((Int × Int) × Int)), Ini σ0 σ LL RR II AA ∧ ∀ σ9, Ini σ0 σ9 (LL ++ [(14, 0)] ++ [(103, 13)] ++ [(101, 500)]) (((1002, this), 1 + (LL.length : Int) + 2) :: ((1001, this), 1 + (LL.length : Int) + 1) :: ((1000, this), 1 + (LL.length : Int)) :: ((1401, 1 + (LL.length : Int)), fR σ0 3000 0) :: RR) (((1007, this), (-1)) :: ((1006, this), (-1)) :: ((1005, this), (-7)) :: ((1004, this), 0) :: ((1003, this), 0) :: ((1400, 1 + (LL.length : Int)), 0) :: II) AA → Q none σ9)
theorem us_X9_init (this : Int) (σ : Hp) (Q : Option AV → Hp → Prop) : sp_X9_init [vr this] σ Q = (kd σ this = 10 ∧ (∃ (σ0 : Hp) (LL : List (Nat × Int)) (RR II : List ((Nat × Int) × Int)) (AA : List ((Int × Int) × Int)), Ini σ0 σ LL RR II AA ∧ ∀ σ9, Ini σ0 σ9 (LL ++ [(14, 0)] ++ [(103, 13)] ++ [(101, 500)]) (((1002, this), 1 + (LL.length : Int) + 2) :: ((1001, this), 1 + (LL.length : Int) + 1) :: ((1000, this), 1 + (LL.length : Int)) :: ((1401, 1 + (LL.length : Int)), fR σ0 3000 0) :: RR) (((1007, this), (-1)) :: ((1006, this), (-1)) :: ((1005, this), (-7)) :: ((1004, this), 0) :: ((1003, this), 0) :: ((1400, 1 + (LL.length : Int)), 0) :: II) AA → Q none σ9)) := propext ⟨fun h => h.2, fun h => ⟨rfl, h⟩⟩
theorem el_X9_init {av : List AV} {σ : Hp} {Q : Option AV → Hp → Prop} (h : sp_X9_init av σ Q) : ∃ (this : Int), av = [vr this] ∧ (kd σ this = 10 ∧ (∃ (σ0 : Hp) (LL : List (Nat × Int)) (RR II : List ((Nat × Int) × Int)) (AA : List ((Int × Int) × Int)), Ini σ0 σ LL RR II AA ∧ ∀ σ9, Ini σ0 σ9 (LL ++ [(14, 0)] ++ [(103, 13)] ++ [(101, 500)]) (((1002, this), 1 + (LL.length : Int) + 2) :: ((1001, this), 1 + (LL.length : Int) + 1) :: ((1000, this), 1 + (LL.length : Int)) :: ((1401, 1 + (LL.length : Int)), fR σ0 3000 0) :: RR) (((1007, this), (-1)) :: ((1006, this), (-1)) :: ((1005, this), (-7)) :: ((1004, this), 0) :: ((1003, this), 0) :: ((1400, 1 + (LL.length : Int)), 0) :: II) AA → Q none σ9)) := by
  obtain ⟨this, a0, rfl, h0⟩ := oR_s h
  obtain ⟨rfl, hz⟩ := h0
  exact ⟨this, rfl, hz⟩
theorem rc_X9_init : ∀ (av : List AV) (σ : Hp) (Q : Option AV → Hp → Prop), sp_X9_init av σ Q → ∃ r tl, av = vr r :: tl ∧ kd σ r = 9 + 1 := fun av σ Q h => by
  obtain ⟨this, rfl, hz, -⟩ := el_X9_init h
  exact ⟨this, _, rfl, hz⟩
theorem rcn_X9_init : ∀ (av : List AV) (σ : Hp) (Q : Option AV → Hp → Prop), sp_X9_init av σ Q → ∃ r tl, av = vr r :: tl ∧ kd σ r ≠ 0 := fun av σ Q h => by
  obtain ⟨r, tl, e, hz⟩ := rc_X9_init av σ Q h
  exact ⟨r, tl, e, by omega⟩

def tb_X9_init : Tab := [(0, .aload_n 0, 1, (0, 0, 0, 0)), (1, .invokespecial 3, 3, (0, 0, 0, 0)), (4, .aload_n 0, 1, (0, 0, 0, 0)), (5, .new 9, 3, (14, 3, 0, 0)), (8, .dup, 1, (0, 0, 0, 0)), (9, .invokespecial 11, 3, (0, 0, 0, 0)), (12, .putfield 12, 3, (10, 1000, 2, 0)), (15, .aload_n 0, 1, (0, 0, 0, 0)), (16, .bipush 13, 2, (0, 0, 0, 0)), (18, .newarray .boolean, 2, (103, 0, 0, 0)), (20, .putfield 18, 3, (10, 1001, 2, 0)), (23, .aload_n 0, 1, (0, 0, 0, 0)), (24, .sipush 500, 3, (0, 0, 0, 0)), (27, .newarray .int, 2, (101, 0, 0, 0)), (29, .putfield 22, 3, (10, 1002, 2, 0)), (32, .aload_n 0, 1, (0, 0, 0, 0)), (33, .iconst 0, 1, (0, 0, 0, 0)), (34, .putfield 26, 3, (10, 1003, 0, 0)), (37, .aload_n 0, 1, (0, 0, 0, 0)), (38, .iconst 0, 1, (0, 0, 0, 0)), (39, .putfield 30, 3, (10, 1004, 0, 0)), (42, .aload_n 0, 1, (0, 0, 0, 0)), (43, .bipush (-7), 2, (0, 0, 0, 0)), (45, .putfield 33, 3, (10, 1005, 0, 0)), (48, .aload_n 0, 1, (0, 0, 0, 0)), (49, .iconst (-1), 1, (0, 0, 0, 0)), (50, .putfield 36, 3, (10, 1006, 0, 0)), (53, .aload_n 0, 1, (0, 0, 0, 0)), (54, .iconst (-1), 1, (0, 0, 0, 0)), (55, .putfield 39, 3, (10, 1007, 0, 0)), (58, .return_, 1, (0, 0, 0, 0))]
set_option maxRecDepth 100000 in
theorem tk_X9_init : TOK RX9 true cX9_init tb_X9_init := chkT_ok ft_X9 (by decide +kernel)
theorem rw_X9_26 : Row RX9 (.invokespecial 3) 3 1 0 0 0 spObj := row_obj (TBL_in 405 (by decide +kernel) rfl) (TBL_in 148 (by decide +kernel) rfl) (TBL_in 149 (by decide +kernel) rfl)
theorem rw_X9_90 : Row RX9 (.invokespecial 11) 3 1 0 0 3 sp_Jx4a65c_init_da8c8 := row_I (n := 0) c_Jx4a65c_init_da8c8 ⟨TBL_in 407 (by decide +kernel) rfl, TBL_in 164 (by decide +kernel) rfl, TBL_in 115 (by decide +kernel) rfl, by decide +kernel, by decide⟩ (TBL_in 163 (by decide +kernel) rfl) rfl (rcn_Jx4a65c_init_da8c8)
def mt_X9_init : List (Nat × Mt) := [(26, 1, 0, 0, 0, spObj), (90, 1, 0, 0, 3, sp_Jx4a65c_init_da8c8)]
theorem em_X9_init : mt_X9_init.lookup 26 = some (1, 0, 0, 0, spObj) ∧ mt_X9_init.lookup 90 = some (1, 0, 0, 3, sp_Jx4a65c_init_da8c8) := ⟨rfl, rfl⟩
theorem mk_X9_init : MOK RX9 mt_X9_init := by
  intro q hq
  simp only [mt_X9_init, List.mem_cons, List.not_mem_nil, or_false] at hq
  rcases hq with rfl | rfl
  · exact rw_X9_26
  · exact rw_X9_90
noncomputable def xe_X9_init (ct : Nat → Bool) (K : Kt) (R : Option AV → Hp → Prop) (n : Nat) : Kt := exS 1 4 3 516 0 tb_X9_init mt_X9_init ct K R n
noncomputable def xk_X9_init (ct : Nat → Bool) (K : Kt) (R : Option AV → Hp → Prop) (n : Nat) : Kt := exkS 1 4 3 516 0 tb_X9_init mt_X9_init ct K R n
theorem xt_X9_init {ct : Nat → Bool} {K : Kt} {R : Option AV → Hp → Prop} {n pc : Nat} {ls : List (Option AV)} {st : List AV} {σ : Hp} {k : Nat × Nat} (h : ct pc = true) : xk_X9_init ct K R n pc ls st σ k = K pc ls st σ k := by unfold xk_X9_init exkS; rw [h]
theorem xf_X9_init {ct : Nat → Bool} {K : Kt} {R : Option AV → Hp → Prop} {n pc : Nat} {ls : List (Option AV)} {st : List AV} {σ : Hp} {k : Nat × Nat} (h : ct pc = false) : xk_X9_init ct K R n pc ls st σ k = xe_X9_init ct K R n pc ls st σ k := by unfold xk_X9_init exkS xe_X9_init; rw [h]
theorem ev_X9_init_0 {ct : Nat → Bool} {K : Kt} {R : Option AV → Hp → Prop} {n : Nat} {ls : List (Option AV)} {st : List AV} {σ : Hp} {k : Nat × Nat} : xe_X9_init ct K R (n + 1) 0 ls st σ k = (lR ls 0 fun x => xk_X9_init ct K R n 1 ls (vr x :: st) σ k) := exS_step.trans rfl
theorem ev_X9_init_1 {ct : Nat → Bool} {K : Kt} {R : Option AV → Hp → Prop} {n : Nat} {ls : List (Option AV)} {st : List AV} {σ : Hp} {k : Nat × Nat} : xe_X9_init ct K R (n + 1) 1 ls st σ k = (popN 1 st [] fun av rest => (catS rest ≤ 8 ∧ 0 < 4 ∧ k.1 + 0 ≤ 3 ∧ k.2 + 0 ≤ 516) ∧ (spObj) av σ fun v σ' => xk_X9_init ct K R n 4 ls (v.toList ++ rest) σ' (k.1 + 0, k.2 + 0)) := exS_step.trans rfl
theorem ev_X9_init_4 {ct : Nat → Bool} {K : Kt} {R : Option AV → Hp → Prop} {n : Nat} {ls : List (Option AV)} {st : List AV} {σ : Hp} {k : Nat × Nat} : xe_X9_init ct K R (n + 1) 4 ls st σ k = (lR ls 0 fun x => xk_X9_init ct K R n 5 ls (vr x :: st) σ k) := exS_step.trans rfl
theorem ev_X9_init_5 {ct : Nat → Bool} {K : Kt} {R : Option AV → Hp → Prop} {n : Nat} {ls : List (Option AV)} {st : List AV} {σ : Hp} {k : Nat × Nat} : xe_X9_init ct K R (n + 1) 5 ls st σ k = ((k.1 + 1 ≤ 3 ∧ k.2 + 3 ≤ 516) ∧ xk_X9_init ct K R n 8 ls (vr (nx σ) :: st) (mk σ 14 0) (k.1 + 1, k.2 + 3)) := exS_step.trans rfl
theorem ev_X9_init_8 {ct : Nat → Bool} {K : Kt} {R : Option AV → Hp → Prop} {n : Nat} {ls : List (Option AV)} {st : List AV} {σ : Hp} {k : Nat × Nat} : xe_X9_init ct K R (n + 1) 8 ls st σ k = (o1 st fun v st => xk_X9_init ct K R n 9 ls (v :: v :: st) σ k) := exS_step.trans rfl
theorem ev_X9_init_9 {ct : Nat → Bool} {K : Kt} {R : Option AV → Hp → Prop} {n : Nat} {ls : List (Option AV)} {st : List AV} {σ : Hp} {k : Nat × Nat} : xe_X9_init ct K R (n + 1) 9 ls st σ k = (popN 1 st [] fun av rest => (catS rest ≤ 8 ∧ 3 < 4 ∧ k.1 + 0 ≤ 3 ∧ k.2 + 0 ≤ 516) ∧ (sp_Jx4a65c_init_da8c8) av σ fun v σ' => xk_X9_init ct K R n 12 ls (v.toList ++ rest) σ' (k.1 + 0, k.2 + 0)) := exS_step.trans rfl
theorem ev_X9_init_12 {ct : Nat → Bool} {K : Kt} {R : Option AV → Hp → Prop} {n : Nat} {ls : List (Option AV)} {st : List AV} {σ : Hp} {k : Nat × Nat} : xe_X9_init ct K R (n + 1) 12 ls st σ k = (oR st fun v st => oR st fun x st => kd σ x = 10 ∧ xk_X9_init ct K R n 15 ls st (pR σ 1000 x v) k) := exS_step.trans rfl
theorem ev_X9_init_15 {ct : Nat → Bool} {K : Kt} {R : Option AV → Hp → Prop} {n : Nat} {ls : List (Option AV)} {st : List AV} {σ : Hp} {k : Nat × Nat} : xe_X9_init ct K R (n + 1) 15 ls st σ k = (lR ls 0 fun x => xk_X9_init ct K R n 16 ls (vr x :: st) σ k) := exS_step.trans rfl
theorem ev_X9_init_16 {ct : Nat → Bool} {K : Kt} {R : Option AV → Hp → Prop} {n : Nat} {ls : List (Option AV)} {st : List AV} {σ : Hp} {k : Nat × Nat} : xe_X9_init ct K R (n + 1) 16 ls st σ k = (xk_X9_init ct K R n 18 ls (vi (13) :: st) σ k) := exS_step.trans rfl
theorem ev_X9_init_18 {ct : Nat → Bool} {K : Kt} {R : Option AV → Hp → Prop} {n : Nat} {ls : List (Option AV)} {st : List AV} {σ : Hp} {k : Nat × Nat} : xe_X9_init ct K R (n + 1) 18 ls st σ k = (oI st fun m st => (0 ≤ m ∧ m ≤ 65536) ∧ (k.1 + 1 ≤ 3 ∧ k.2 + m.toNat ≤ 516) ∧ xk_X9_init ct K R n 20 ls (vr (nx σ) :: st) (mk σ 103 m) (k.1 + 1, k.2 + m.toNat)) := exS_step.trans rfl
theorem ev_X9_init_20 {ct : Nat → Bool} {K : Kt} {R : Option AV → Hp → Prop} {n : Nat} {ls : List (Option AV)} {st : List AV} {σ : Hp} {k : Nat × Nat} : xe_X9_init ct K R (n + 1) 20 ls st σ k = (oR st fun v st => oR st fun x st => kd σ x = 10 ∧ xk_X9_init ct K R n 23 ls st (pR σ 1001 x v) k) := exS_step.trans rfl
theorem ev_X9_init_23 {ct : Nat → Bool} {K : Kt} {R : Option AV → Hp → Prop} {n : Nat} {ls : List (Option AV)} {st : List AV} {σ : Hp} {k : Nat × Nat} : xe_X9_init ct K R (n + 1) 23 ls st σ k = (lR ls 0 fun x => xk_X9_init ct K R n 24 ls (vr x :: st) σ k) := exS_step.trans rfl
theorem ev_X9_init_24 {ct : Nat → Bool} {K : Kt} {R : Option AV → Hp → Prop} {n : Nat} {ls : List (Option AV)} {st : List AV} {σ : Hp} {k : Nat × Nat} : xe_X9_init ct K R (n + 1) 24 ls st σ k = (xk_X9_init ct K R n 27 ls (vi (500) :: st) σ k) := exS_step.trans rfl
theorem ev_X9_init_27 {ct : Nat → Bool} {K : Kt} {R : Option AV → Hp → Prop} {n : Nat} {ls : List (Option AV)} {st : List AV} {σ : Hp} {k : Nat × Nat} : xe_X9_init ct K R (n + 1) 27 ls st σ k = (oI st fun m st => (0 ≤ m ∧ m ≤ 65536) ∧ (k.1 + 1 ≤ 3 ∧ k.2 + m.toNat ≤ 516) ∧ xk_X9_init ct K R n 29 ls (vr (nx σ) :: st) (mk σ 101 m) (k.1 + 1, k.2 + m.toNat)) := exS_step.trans rfl
theorem ev_X9_init_29 {ct : Nat → Bool} {K : Kt} {R : Option AV → Hp → Prop} {n : Nat} {ls : List (Option AV)} {st : List AV} {σ : Hp} {k : Nat × Nat} : xe_X9_init ct K R (n + 1) 29 ls st σ k = (oR st fun v st => oR st fun x st => kd σ x = 10 ∧ xk_X9_init ct K R n 32 ls st (pR σ 1002 x v) k) := exS_step.trans rfl
theorem ev_X9_init_32 {ct : Nat → Bool} {K : Kt} {R : Option AV → Hp → Prop} {n : Nat} {ls : List (Option AV)} {st : List AV} {σ : Hp} {k : Nat × Nat} : xe_X9_init ct K R (n + 1) 32 ls st σ k = (lR ls 0 fun x => xk_X9_init ct K R n 33 ls (vr x :: st) σ k) := exS_step.trans rfl
theorem ev_X9_init_33 {ct : Nat → Bool} {K : Kt} {R : Option AV → Hp → Prop} {n : Nat} {ls : List (Option AV)} {st : List AV} {σ : Hp} {k : Nat × Nat} : xe_X9_init ct K R (n + 1) 33 ls st σ k = (xk_X9_init ct K R n 34 ls (vi (0) :: st) σ k) := exS_step.trans rfl
theorem ev_X9_init_34 {ct : Nat → Bool} {K : Kt} {R : Option AV → Hp → Prop} {n : Nat} {ls : List (Option AV)} {st : List AV} {σ : Hp} {k : Nat × Nat} : xe_X9_init ct K R (n + 1) 34 ls st σ k = (oI st fun v st => oR st fun x st => kd σ x = 10 ∧ xk_X9_init ct K R n 37 ls st (pI σ 1003 x v) k) := exS_step.trans rfl
theorem ev_X9_init_37 {ct : Nat → Bool} {K : Kt} {R : Option AV → Hp → Prop} {n : Nat} {ls : List (Option AV)} {st : List AV} {σ : Hp} {k : Nat × Nat} : xe_X9_init ct K R (n + 1) 37 ls st σ k = (lR ls 0 fun x => xk_X9_init ct K R n 38 ls (vr x :: st) σ k) := exS_step.trans rfl
theorem ev_X9_init_38 {ct : Nat → Bool} {K : Kt} {R : Option AV → Hp → Prop} {n : Nat} {ls : List (Option AV)} {st : List AV} {σ : Hp} {k : Nat × Nat} : xe_X9_init ct K R (n + 1) 38 ls st σ k = (xk_X9_init ct K R n 39 ls (vi (0) :: st) σ k) := exS_step.trans rfl
theorem ev_X9_init_39 {ct : Nat → Bool} {K : Kt} {R : Option AV → Hp → Prop} {n : Nat} {ls : List (Option AV)} {st : List AV} {σ : Hp} {k : Nat × Nat} : xe_X9_init ct K R (n + 1) 39 ls st σ k = (oI st fun v st => oR st fun x st => kd σ x = 10 ∧ xk_X9_init ct K R n 42 ls st (pI σ 1004 x v) k) := exS_step.trans rfl
theorem ev_X9_init_42 {ct : Nat → Bool} {K : Kt} {R : Option AV → Hp → Prop} {n : Nat} {ls : List (Option AV)} {st : List AV} {σ : Hp} {k : Nat × Nat} : xe_X9_init ct K R (n + 1) 42 ls st σ k = (lR ls 0 fun x => xk_X9_init ct K R n 43 ls (vr x :: st) σ k) := exS_step.trans rfl
theorem ev_X9_init_43 {ct : Nat → Bool} {K : Kt} {R : Option AV → Hp → Prop} {n : Nat} {ls : List (Option AV)} {st : List AV} {σ : Hp} {k : Nat × Nat} : xe_X9_init ct K R (n + 1) 43 ls st σ k = (xk_X9_init ct K R n 45 ls (vi (-7) :: st) σ k) := exS_step.trans rfl
theorem ev_X9_init_45 {ct : Nat → Bool} {K : Kt} {R : Option AV → Hp → Prop} {n : Nat} {ls : List (Option AV)} {st : List AV} {σ : Hp} {k : Nat × Nat} : xe_X9_init ct K R (n + 1) 45 ls st σ k = (oI st fun v st => oR st fun x st => kd σ x = 10 ∧ xk_X9_init ct K R n 48 ls st (pI σ 1005 x v) k) := exS_step.trans rfl
theorem ev_X9_init_48 {ct : Nat → Bool} {K : Kt} {R : Option AV → Hp → Prop} {n : Nat} {ls : List (Option AV)} {st : List AV} {σ : Hp} {k : Nat × Nat} : xe_X9_init ct K R (n + 1) 48 ls st σ k = (lR ls 0 fun x => xk_X9_init ct K R n 49 ls (vr x :: st) σ k) := exS_step.trans rfl
theorem ev_X9_init_49 {ct : Nat → Bool} {K : Kt} {R : Option AV → Hp → Prop} {n : Nat} {ls : List (Option AV)} {st : List AV} {σ : Hp} {k : Nat × Nat} : xe_X9_init ct K R (n + 1) 49 ls st σ k = (xk_X9_init ct K R n 50 ls (vi (-1) :: st) σ k) := exS_step.trans rfl
theorem ev_X9_init_50 {ct : Nat → Bool} {K : Kt} {R : Option AV → Hp → Prop} {n : Nat} {ls : List (Option AV)} {st : List AV} {σ : Hp} {k : Nat × Nat} : xe_X9_init ct K R (n + 1) 50 ls st σ k = (oI st fun v st => oR st fun x st => kd σ x = 10 ∧ xk_X9_init ct K R n 53 ls st (pI σ 1006 x v) k) := exS_step.trans rfl
theorem ev_X9_init_53 {ct : Nat → Bool} {K : Kt} {R : Option AV → Hp → Prop} {n : Nat} {ls : List (Option AV)} {st : List AV} {σ : Hp} {k : Nat × Nat} : xe_X9_init ct K R (n + 1) 53 ls st σ k = (lR ls 0 fun x => xk_X9_init ct K R n 54 ls (vr x :: st) σ k) := exS_step.trans rfl
theorem ev_X9_init_54 {ct : Nat → Bool} {K : Kt} {R : Option AV → Hp → Prop} {n : Nat} {ls : List (Option AV)} {st : List AV} {σ : Hp} {k : Nat × Nat} : xe_X9_init ct K R (n + 1) 54 ls st σ k = (xk_X9_init ct K R n 55 ls (vi (-1) :: st) σ k) := exS_step.trans rfl
theorem ev_X9_init_55 {ct : Nat → Bool} {K : Kt} {R : Option AV → Hp → Prop} {n : Nat} {ls : List (Option AV)} {st : List AV} {σ : Hp} {k : Nat × Nat} : xe_X9_init ct K R (n + 1) 55 ls st σ k = (oI st fun v st => oR st fun x st => kd σ x = 10 ∧ xk_X9_init ct K R n 58 ls st (pI σ 1007 x v) k) := exS_step.trans rfl
theorem ev_X9_init_58 {ct : Nat → Bool} {K : Kt} {R : Option AV → Hp → Prop} {n : Nat} {ls : List (Option AV)} {st : List AV} {σ : Hp} {k : Nat × Nat} : xe_X9_init ct K R (n + 1) 58 ls st σ k = (st = [] ∧ 0 = 0 ∧ R none σ) := exS_step.trans rfl
def M_X9_init : Md := (yX9_init, cX9_init, 1, (none : Option FieldType), 4, 3, 516, 0, true, tb_X9_init, mt_X9_init)
theorem mm_X9_init : MMOK M_X9_init := ⟨by decide +kernel, tk_X9_init, mk_X9_init, rfl, fun _ => rfl⟩
theorem go_X9_init {Q : Option AV → Hp → Prop} {ct : Nat → Bool} {pc : Nat} {ls : List (Option AV)} {st : List AV} {σ : Hp} {k : Nat × Nat} (n : Nat) (h : xe_X9_init ct (Go M_X9_init Q) Q n pc ls st σ k) : Go M_X9_init Q pc ls st σ k := Go.exS mm_X9_init h

set_option maxRecDepth 20000 in
theorem c_X9_init : Ct yX9_init cX9_init 1 ((none : Option FieldType)) 4 3 516 sp_X9_init := by
  refine Ct.go (M := M_X9_init) mm_X9_init fun av σ Q h0 => ?_
  obtain ⟨this, rfl, hk, h⟩ := el_X9_init h0
  clear h0
  refine ⟨Nat.le_of_ble_eq_true rfl, ?_⟩
  show Go M_X9_init Q 0 [some (vr this)] [] σ (0, 0)
  obtain ⟨σ0, LL, RR, II, AA, hi, h⟩ := h
  have hn := hi.1
  refine Go.wf fun hw => ?_
  have hz : ¬ this = 0 := (hw.2.1 this (by omega)).1
  have hz1 : this < nx σ := (hw.2.1 this (by omega)).2.1
  have hy0 : ¬ this = nx σ := by omega
  have hy1 : ¬ this = nx σ + 1 := by omega
  have hy2 : ¬ this = nx σ + 1 + 1 := by omega
  refine go_X9_init (ct := fun p => p == 299) 80 ?_
  simp only [oI, oL, oR, o1, lI, lL, lR, popN, catS, gv, stL, stL2, swt, cnd, spObj, List.getElem?_cons_zero, List.getElem?_cons_succ, List.getD_cons_zero, List.getD_cons_succ, List.set_cons_zero, List.set_cons_succ, List.nil_append, List.cons_append, Option.toList, Bool.or_false, Bool.false_or, Bool.or_true, Bool.true_or, Nat.reduceBEq, Nat.reduceAdd, Nat.reduceLT, Nat.reduceLeDiff, Int.reduceAdd, Int.reduceToNat, true_and, and_true, Fin.isValue, Fin.val_zero, Fin.val_one, Fin.val_two, Fin.reduceFinMk, eq_self, Int.reduceNeg, imp_self, Nat.reduceMul, Nat.le_refl, not_true_eq_false, not_false_eq_true, List.getElem?_nil, reduceCtorEq, true_or, or_true, Classical.not_not, implies_true, or_self, wI_0, wI_1, wI_m1, b2i_w, b2i_eq0, b2i_eq1, b2i_bool, nor_self, nx_pI, kd_pI, ln_pI, fI_pI, fL_pI, fR_pI, aI_pI, aL_pI, aR_pI, nx_pL, kd_pL, ln_pL, fI_pL, fL_pL, fR_pL, aI_pL, aL_pL, aR_pL, nx_pR, kd_pR, ln_pR, fI_pR, fL_pR, fR_pR, aI_pR, aL_pR, aR_pR, nx_qI, kd_qI, ln_qI, fI_qI, fL_qI, fR_qI, aI_qI, aL_qI, aR_qI, nx_qL, kd_qL, ln_qL, fI_qL, fL_qL, fR_qL, aI_qL, aL_qL, aR_qL, nx_qR, kd_qR, ln_qR, fI_qR, fL_qR, fR_qR, aI_qR, aL_qR, aR_qR, nx_mk, kd_mk, ln_mk, fI_mk, fL_mk, fR_mk, aI_mk, aL_mk, aR_mk, false_and, and_false, if_false, if_true, and_self, Int.reduceEq, Nat.reduceEqDiff, ite_self, MLay_pI, MLay_pL, MLay_qI, MLay_qL, ev_X9_init_0, ev_X9_init_1, ev_X9_init_4, ev_X9_init_5, ev_X9_init_8, ev_X9_init_9, ev_X9_init_12, ev_X9_init_15, ev_X9_init_16, ev_X9_init_18, ev_X9_init_20, ev_X9_init_23, ev_X9_init_24, ev_X9_init_27, ev_X9_init_29, ev_X9_init_32, ev_X9_init_33, ev_X9_init_34, ev_X9_init_37, ev_X9_init_38, ev_X9_init_39, ev_X9_init_42, ev_X9_init_43, ev_X9_init_45, ev_X9_init_48, ev_X9_init_49, ev_X9_init_50, ev_X9_init_53, ev_X9_init_54, ev_X9_init_55, ev_X9_init_58, xt_X9_init, xf_X9_init, us_Jx4a65c_init_da8c8, hk, hy0, hy1, hy2]
  repeat' (first | intro z | apply And.intro)
  all_goals try omega
  all_goals try contradiction
  all_goals first | exact hz | (refine h _ ?_; (repeat' (first | exact hi | (refine Ini.pI' (by omega) (by omega) ?_) | (refine Ini.pR' (by decide) (by omega) (by first | omega | exact hi.ee) ?_) | (refine Ini.qR' (by omega) (by omega) (by omega) ?_) | refine Ini.mk' ?_)))

/-! the reference: stories of one beginning, of two -/

def VP (n sp p : Int) : Prop := 0 ≤ p ∧ p / 300 < n ∧ p % 300 < sp
def Pc (τ : Hp) (H : Int → Prop) (K : Int → Int → Prop) (n sp e : Int) : Prop := (0 ≤ n ∧ n ≤ 12) ∧ fI τ 1329 61 = sp ∧ (1 ≤ sp ∧ sp ≤ 300) ∧ fI τ 1330 61 = e ∧ (0 ≤ e ∧ e < sp) ∧ H e ∧ (∀ u, 0 ≤ u → u < e → ¬ H u) ∧ BW (aL τ 84) 0 (fun u => u < sp ∧ H u) ∧ (∀ p, VP n sp p → BW (aL τ 83) (5 * p) (fun u => u < sp ∧ K p u) ∧ aI τ 82 p = b2i (∀ u, 0 ≤ u → u < sp → K p u → H u)) ∧ (∀ p, VP n sp p → K p (p % 300)) ∧ (∀ p u, VP n sp p → K p u → p % 300 ≤ u) ∧ 0 ≤ fI τ 1321 61 ∧ fI τ 1331 61 ≤ 999700 + (300 - sp)
theorem Pc.keep {τ0 τ : Hp} {H : Int → Prop} {K : Int → Int → Prop} {n sp e : Int} (h : Pc τ0 H K n sp e) (w : Wt τ0 τ) : Pc τ H K n sp e := by
  obtain ⟨h1, h2, h3, h4, h5, h6, h7, h8, h9, h10, h11, h12, h13⟩ := h
  have eL : aL τ = aL τ0 := by funext r j; exact w.2.2.2.2.2.2.2.2.2 r j id
  refine ⟨h1, (w.2.f (by decide)).trans h2, h3, (w.2.f (by decide)).trans h4, h5, h6, h7, by rw [eL]; exact h8, fun p hp => ?_, h10, h11, ?_, ?_⟩
  · rw [eL, w.2.a (r := 82) (fun _ => by decide)]; exact h9 p hp
  · rw [w.2.f (f := 1321) (by decide)]; exact h12
  · rw [w.2.f (f := 1331) (by decide)]; exact h13
theorem BW.or {A B : Int → BitVec 64} {o o' : Int} {P P' : Int → Prop} (h : BW A o P) (g : BW B o' P') : BW (fun i => A (o + i) ||| B (o' + i)) 0 (fun u => P u ∨ P' u) := fun i h0 h1 j hj => by
  have a := h i h0 h1 j hj
  have b := g i h0 h1 j hj
  rw [Int.zero_add, BitVec.getLsbD_or, Bool.or_eq_true, a, b]
  exact ⟨fun q => q.elim (fun q => ⟨q.1, Or.inl q.2⟩) (fun q => ⟨q.1, Or.inr q.2⟩), fun q => q.2.elim (fun z => Or.inl ⟨q.1, z⟩) (fun z => Or.inr ⟨q.1, z⟩)⟩
section ON
variable {Q : Option AV → Hp → Prop} {τ0 : Hp} {H : Int → Prop} {K : Int → Int → Prop} {n sp e : Int}
theorem rw_bw {τ : Hp} (h : Pc τ H K n sp e) {p : Int} (hp : VP n sp p) : BW (fun i => rwB τ p i) 0 (fun u => u < sp ∧ K p u) := fun i h0 h1 j hj => by
  have := (h.2.2.2.2.2.2.2.2.1 p hp).1 i h0 h1 j hj
  show (rwB τ p (0 + i)).getLsbD j = true ↔ _
  rw [Int.zero_add]
  unfold rwB
  rw [if_neg (by unfold VP at hp; omega)]
  exact this
theorem rw_no (τ : Hp) : BW (fun i => rwB τ (-1) i) 0 (fun _ => False) := BW.zero fun i _ _ => rfl
theorem are_g {τ : Hp} (h : Pc τ H K n sp e) {a b c : Int} {Pa Pb Px : Int → Prop} (ha : BW (fun i => rwB τ a i) 0 Pa) (hb : BW (fun i => rwB τ b i) 0 Pb) (hc : BW (fun i => rwB τ c i) 0 Px) : mAre τ a b c ↔ ∀ u, 0 ≤ u → u < 300 → ((Pa u ∨ Pb u) ∨ Px u ↔ u < sp ∧ H u) := by
  have h1 := ((ha.or hb).or hc).eq h.2.2.2.2.2.2.2.1
  rw [← h1]
  simp only [Int.zero_add]
  exact Iff.rfl
theorem are1 {τ : Hp} (h : Pc τ H K n sp e) {a : Int} (ha : VP n sp a) : mAre τ a (-1) (-1) ↔ ∀ u, 0 ≤ u → u < sp → (H u ↔ K a u) := by
  rw [are_g h (rw_bw h ha) (rw_no τ) (rw_no τ)]
  have := h.2.2.1
  constructor
  · intro q u q1 q2
    have := q u q1 (by omega)
    simp only [or_false, q2, true_and] at this
    exact this.symm
  · intro q u q1 q2
    simp only [or_false]
    by_cases c : u < sp
    · simp only [c, true_and]; exact (q u q1 c).symm
    · simp only [c, false_and]
theorem are2 {τ : Hp} (h : Pc τ H K n sp e) {a b : Int} (ha : VP n sp a) (hb : VP n sp b) : mAre τ a b (-1) ↔ ∀ u, 0 ≤ u → u < sp → (H u ↔ K a u ∨ K b u) := by
  rw [are_g h (rw_bw h ha) (rw_bw h hb) (rw_no τ)]
  have := h.2.2.1
  constructor
  · intro q u q1 q2
    have := q u q1 (by omega)
    simp only [or_false, q2, true_and] at this
    exact this.symm
  · intro q u q1 q2
    simp only [or_false]
    by_cases c : u < sp
    · simp only [c, true_and]; exact (q u q1 c).symm
    · simp only [c, false_and, or_self]
theorem are3 {τ : Hp} (h : Pc τ H K n sp e) {a b c : Int} (ha : VP n sp a) (hb : VP n sp b) (hc : VP n sp c) : mAre τ a b c ↔ ∀ u, 0 ≤ u → u < sp → (H u ↔ K a u ∨ K b u ∨ K c u) := by
  rw [are_g h (rw_bw h ha) (rw_bw h hb) (rw_bw h hc)]
  have := h.2.2.1
  constructor
  · intro q u q1 q2
    have := q u q1 (by omega)
    simp only [q2, true_and, or_assoc] at this
    exact this.symm
  · intro q u q1 q2
    by_cases c : u < sp
    · simp only [c, true_and, or_assoc]; exact (q u q1 c).symm
    · simp only [c, false_and, or_self]
theorem k13_bt {p a : Int} (h1 : k13 a ≤ k13 p) (h2 : k13 p < k13 (a + 1)) : p = a := by
  by_cases c : p < a
  · have := k13_mono c; omega
  · by_cases d : a + 1 < p
    · have := k13_mono d; omega
    · by_cases e : p = a + 1
      · subst e; omega
      · omega

def sp_X12_ones : Sp := fun av σ Q => oR av fun this av => oI av fun m av => av = [] ∧ kd σ this = 13 ∧ (this = 61 ∧ MI σ ∧ fI σ 1322 61 = 0 ∧ ∃ H K sp e, Pc σ H K m sp e ∧ ∀ τ xs, Wt σ τ → Told τ xs → Sg (Sm H K m sp 1) xs → Q none τ)
theorem us_X12_ones (this : Int) (m : Int) (σ : Hp) (Q : Option AV → Hp → Prop) : sp_X12_ones [vr this, vi m] σ Q = (kd σ this = 13 ∧ (this = 61 ∧ MI σ ∧ fI σ 1322 61 = 0 ∧ ∃ H K sp e, Pc σ H K m sp e ∧ ∀ τ xs, Wt σ τ → Told τ xs → Sg (Sm H K m sp 1) xs → Q none τ)) := propext ⟨fun h => h.2, fun h => ⟨rfl, h⟩⟩
theorem el_X12_ones {av : List AV} {σ : Hp} {Q : Option AV → Hp → Prop} (h : sp_X12_ones av σ Q) : ∃ (this : Int) (m : Int), av = [vr this, vi m] ∧ (kd σ this = 13 ∧ (this = 61 ∧ MI σ ∧ fI σ 1322 61 = 0 ∧ ∃ H K sp e, Pc σ H K m sp e ∧ ∀ τ xs, Wt σ τ → Told τ xs → Sg (Sm H K m sp 1) xs → Q none τ)) := by
  obtain ⟨this, a0, rfl, h0⟩ := oR_s h
  obtain ⟨m, a1, rfl, h1⟩ := oI_s h0
  obtain ⟨rfl, hz⟩ := h1
  exact ⟨this, m, rfl, hz⟩
theorem rc_X12_ones : ∀ (av : List AV) (σ : Hp) (Q : Option AV → Hp → Prop), sp_X12_ones av σ Q → ∃ r tl, av = vr r :: tl ∧ kd σ r = 12 + 1 := fun av σ Q h => by
  obtain ⟨this, m, rfl, hz, -⟩ := el_X12_ones h
  exact ⟨this, _, rfl, hz⟩

def tb_X12_ones : Tab := [(0, .iconst 0, 1, (0, 0, 0, 0)), (1, .istore_n 2, 1, (0, 0, 0, 0)), (2, .iload_n 2, 1, (0, 0, 0, 0)), (3, .sipush 300, 3, (0, 0, 0, 0)), (6, .iload_n 1, 1, (0, 0, 0, 0)), (7, .imul, 1, (0, 0, 0, 0)), (8, .if_icmp .ge 47, 3, (0, 0, 0, 0)), (11, .aload_n 0, 1, (0, 0, 0, 0)), (12, .getfield 71, 3, (13, 1326, 2, 0)), (15, .iload_n 2, 1, (0, 0, 0, 0)), (16, .baload, 1, (0, 0, 0, 0)), (17, .ifCond .eq 32, 3, (0, 0, 0, 0)), (20, .iload_n 2, 1, (0, 0, 0, 0)), (21, .sipush 300, 3, (0, 0, 0, 0)), (24, .irem, 1, (0, 0, 0, 0)), (25, .aload_n 0, 1, (0, 0, 0, 0)), (26, .getfield 241, 3, (13, 1329, 0, 0)), (29, .if_icmp .ge 20, 3, (0, 0, 0, 0)), (32, .aload_n 0, 1, (0, 0, 0, 0)), (33, .iload_n 2, 1, (0, 0, 0, 0)), (34, .iconst (-1), 1, (0, 0, 0, 0)), (35, .iconst (-1), 1, (0, 0, 0, 0)), (36, .invokevirtual 260, 3, (0, 0, 0, 0)), (39, .ifCond .eq 10, 3, (0, 0, 0, 0)), (42, .aload_n 0, 1, (0, 0, 0, 0)), (43, .iload_n 2, 1, (0, 0, 0, 0)), (44, .iconst (-1), 1, (0, 0, 0, 0)), (45, .iconst (-1), 1, (0, 0, 0, 0)), (46, .invokevirtual 263, 3, (0, 0, 0, 0)), (49, .iinc 2 1, 3, (0, 0, 0, 0)), (52, .goto (-50), 3, (0, 0, 0, 0)), (55, .return_, 1, (0, 0, 0, 0))]
set_option maxRecDepth 100000 in
theorem tk_X12_ones : TOK RX12 false cX12_ones tb_X12_ones := chkT_ok ft_X12 (by decide +kernel)
theorem rw_X12_2080 : Row RX12 (.invokevirtual 260) 3 4 0 0 1 sp_X12_areAll := row_V (n := 3) (ci := 12) c_X12_areAll ⟨TBL_in 1847 (by decide +kernel) rfl, TBL_in 1850 (by decide +kernel) rfl, TBL_in 123 (by decide +kernel) rfl, by decide +kernel, by decide⟩ (by decide) rfl (TBL_in 1849 (by decide +kernel) rfl) (TBL_in 75 (by decide +kernel) rfl) rc_X12_areAll
theorem rw_X12_2104 : Row RX12 (.invokevirtual 263) 3 4 0 0 2 sp_X12_tells := row_V (n := 3) (ci := 12) c_X12_tells ⟨TBL_in 1835 (by decide +kernel) rfl, TBL_in 1838 (by decide +kernel) rfl, TBL_in 123 (by decide +kernel) rfl, by decide +kernel, by decide⟩ (by decide) rfl (TBL_in 1837 (by decide +kernel) rfl) (TBL_in 72 (by decide +kernel) rfl) rc_X12_tells
def mt_X12_ones : List (Nat × Mt) := [(2080, 4, 0, 0, 1, sp_X12_areAll), (2104, 4, 0, 0, 2, sp_X12_tells)]
theorem em_X12_ones : mt_X12_ones.lookup 2080 = some (4, 0, 0, 1, sp_X12_areAll) ∧ mt_X12_ones.lookup 2104 = some (4, 0, 0, 2, sp_X12_tells) := ⟨rfl, rfl⟩
theorem mk_X12_ones : MOK RX12 mt_X12_ones := by
  intro q hq
  simp only [mt_X12_ones, List.mem_cons, List.not_mem_nil, or_false] at hq
  rcases hq with rfl | rfl
  · exact rw_X12_2080
  · exact rw_X12_2104
noncomputable def xe_X12_ones (ct : Nat → Bool) (K : Kt) (R : Option AV → Hp → Prop) (n : Nat) : Kt := exS 3 3 0 0 0 tb_X12_ones mt_X12_ones ct K R n
noncomputable def xk_X12_ones (ct : Nat → Bool) (K : Kt) (R : Option AV → Hp → Prop) (n : Nat) : Kt := exkS 3 3 0 0 0 tb_X12_ones mt_X12_ones ct K R n
theorem xt_X12_ones {ct : Nat → Bool} {K : Kt} {R : Option AV → Hp → Prop} {n pc : Nat} {ls : List (Option AV)} {st : List AV} {σ : Hp} {k : Nat × Nat} (h : ct pc = true) : xk_X12_ones ct K R n pc ls st σ k = K pc ls st σ k := by unfold xk_X12_ones exkS; rw [h]
theorem xf_X12_ones {ct : Nat → Bool} {K : Kt} {R : Option AV → Hp → Prop} {n pc : Nat} {ls : List (Option AV)} {st : List AV} {σ : Hp} {k : Nat × Nat} (h : ct pc = false) : xk_X12_ones ct K R n pc ls st σ k = xe_X12_ones ct K R n pc ls st σ k := by unfold xk_X12_ones exkS xe_X12_ones; rw [h]
theorem ev_X12_ones_0 {ct : Nat → Bool} {K : Kt} {R : Option AV → Hp → Prop} {n : Nat} {ls : List (Option AV)} {st : List AV} {σ : Hp} {k : Nat × Nat} : xe_X12_ones ct K R (n + 1) 0 ls st σ k = (xk_X12_ones ct K R n 1 ls (vi (0) :: st) σ k) := exS_step.trans rfl
theorem ev_X12_ones_1 {ct : Nat → Bool} {K : Kt} {R : Option AV → Hp → Prop} {n : Nat} {ls : List (Option AV)} {st : List AV} {σ : Hp} {k : Nat × Nat} : xe_X12_ones ct K R (n + 1) 1 ls st σ k = (oI st fun x st => 2 < 3 ∧ xk_X12_ones ct K R n 2 (stL ls 2 (vi x)) st σ k) := exS_step.trans rfl
theorem ev_X12_ones_2 {ct : Nat → Bool} {K : Kt} {R : Option AV → Hp → Prop} {n : Nat} {ls : List (Option AV)} {st : List AV} {σ : Hp} {k : Nat × Nat} : xe_X12_ones ct K R (n + 1) 2 ls st σ k = (lI ls 2 fun x => xk_X12_ones ct K R n 3 ls (vi x :: st) σ k) := exS_step.trans rfl
theorem ev_X12_ones_3 {ct : Nat → Bool} {K : Kt} {R : Option AV → Hp → Prop} {n : Nat} {ls : List (Option AV)} {st : List AV} {σ : Hp} {k : Nat × Nat} : xe_X12_ones ct K R (n + 1) 3 ls st σ k = (xk_X12_ones ct K R n 6 ls (vi (300) :: st) σ k) := exS_step.trans rfl
theorem ev_X12_ones_6 {ct : Nat → Bool} {K : Kt} {R : Option AV → Hp → Prop} {n : Nat} {ls : List (Option AV)} {st : List AV} {σ : Hp} {k : Nat × Nat} : xe_X12_ones ct K R (n + 1) 6 ls st σ k = (lI ls 1 fun x => xk_X12_ones ct K R n 7 ls (vi x :: st) σ k) := exS_step.trans rfl
theorem ev_X12_ones_7 {ct : Nat → Bool} {K : Kt} {R : Option AV → Hp → Prop} {n : Nat} {ls : List (Option AV)} {st : List AV} {σ : Hp} {k : Nat × Nat} : xe_X12_ones ct K R (n + 1) 7 ls st σ k = (oI st fun y st => oI st fun x st => xk_X12_ones ct K R n 8 ls (vi (x * y) :: st) σ k) := exS_step.trans rfl
theorem ev_X12_ones_8 {ct : Nat → Bool} {K : Kt} {R : Option AV → Hp → Prop} {n : Nat} {ls : List (Option AV)} {st : List AV} {σ : Hp} {k : Nat × Nat} : xe_X12_ones ct K R (n + 1) 8 ls st σ k = (oI st fun y st => oI st fun x st => (wI y ≤ wI x → xk_X12_ones ct K R n 55 ls st σ k) ∧ (¬ (wI y ≤ wI x) → xk_X12_ones ct K R n 11 ls st σ k)) := exS_step.trans rfl
theorem ev_X12_ones_11 {ct : Nat → Bool} {K : Kt} {R : Option AV → Hp → Prop} {n : Nat} {ls : List (Option AV)} {st : List AV} {σ : Hp} {k : Nat × Nat} : xe_X12_ones ct K R (n + 1) 11 ls st σ k = (lR ls 0 fun x => xk_X12_ones ct K R n 12 ls (vr x :: st) σ k) := exS_step.trans rfl
theorem ev_X12_ones_12 {ct : Nat → Bool} {K : Kt} {R : Option AV → Hp → Prop} {n : Nat} {ls : List (Option AV)} {st : List AV} {σ : Hp} {k : Nat × Nat} : xe_X12_ones ct K R (n + 1) 12 ls st σ k = (oR st fun x st => kd σ x = 13 ∧ xk_X12_ones ct K R n 15 ls (vr (fR σ 1326 x) :: st) σ k) := exS_step.trans rfl
theorem ev_X12_ones_15 {ct : Nat → Bool} {K : Kt} {R : Option AV → Hp → Prop} {n : Nat} {ls : List (Option AV)} {st : List AV} {σ : Hp} {k : Nat × Nat} : xe_X12_ones ct K R (n + 1) 15 ls st σ k = (lI ls 2 fun x => xk_X12_ones ct K R n 16 ls (vi x :: st) σ k) := exS_step.trans rfl
theorem ev_X12_ones_16 {ct : Nat → Bool} {K : Kt} {R : Option AV → Hp → Prop} {n : Nat} {ls : List (Option AV)} {st : List AV} {σ : Hp} {k : Nat × Nat} : xe_X12_ones ct K R (n + 1) 16 ls st σ k = (oI st fun j st => oR st fun x st => (kd σ x = 103 ∨ kd σ x = 21) ∧ (0 ≤ j ∧ j < ln σ x) ∧ xk_X12_ones ct K R n 17 ls (vi (aI σ x j) :: st) σ k) := exS_step.trans rfl
theorem ev_X12_ones_17 {ct : Nat → Bool} {K : Kt} {R : Option AV → Hp → Prop} {n : Nat} {ls : List (Option AV)} {st : List AV} {σ : Hp} {k : Nat × Nat} : xe_X12_ones ct K R (n + 1) 17 ls st σ k = (oI st fun x st => (wI x = wI 0 → xk_X12_ones ct K R n 49 ls st σ k) ∧ (¬ (wI x = wI 0) → xk_X12_ones ct K R n 20 ls st σ k)) := exS_step.trans rfl
theorem ev_X12_ones_20 {ct : Nat → Bool} {K : Kt} {R : Option AV → Hp → Prop} {n : Nat} {ls : List (Option AV)} {st : List AV} {σ : Hp} {k : Nat × Nat} : xe_X12_ones ct K R (n + 1) 20 ls st σ k = (lI ls 2 fun x => xk_X12_ones ct K R n 21 ls (vi x :: st) σ k) := exS_step.trans rfl
theorem ev_X12_ones_21 {ct : Nat → Bool} {K : Kt} {R : Option AV → Hp → Prop} {n : Nat} {ls : List (Option AV)} {st : List AV} {σ : Hp} {k : Nat × Nat} : xe_X12_ones ct K R (n + 1) 21 ls st σ k = (xk_X12_ones ct K R n 24 ls (vi (300) :: st) σ k) := exS_step.trans rfl
theorem ev_X12_ones_24 {ct : Nat → Bool} {K : Kt} {R : Option AV → Hp → Prop} {n : Nat} {ls : List (Option AV)} {st : List AV} {σ : Hp} {k : Nat × Nat} : xe_X12_ones ct K R (n + 1) 24 ls st σ k = (oI st fun y st => oI st fun x st => ¬ wI y = 0 ∧ xk_X12_ones ct K R n 25 ls (vi (rmI x y) :: st) σ k) := exS_step.trans rfl
theorem ev_X12_ones_25 {ct : Nat → Bool} {K : Kt} {R : Option AV → Hp → Prop} {n : Nat} {ls : List (Option AV)} {st : List AV} {σ : Hp} {k : Nat × Nat} : xe_X12_ones ct K R (n + 1) 25 ls st σ k = (lR ls 0 fun x => xk_X12_ones ct K R n 26 ls (vr x :: st) σ k) := exS_step.trans rfl
theorem ev_X12_ones_26 {ct : Nat → Bool} {K : Kt} {R : Option AV → Hp → Prop} {n : Nat} {ls : List (Option AV)} {st : List AV} {σ : Hp} {k : Nat × Nat} : xe_X12_ones ct K R (n + 1) 26 ls st σ k = (oR st fun x st => kd σ x = 13 ∧ xk_X12_ones ct K R n 29 ls (vi (fI σ 1329 x) :: st) σ k) := exS_step.trans rfl
theorem ev_X12_ones_29 {ct : Nat → Bool} {K : Kt} {R : Option AV → Hp → Prop} {n : Nat} {ls : List (Option AV)} {st : List AV} {σ : Hp} {k : Nat × Nat} : xe_X12_ones ct K R (n + 1) 29 ls st σ k = (oI st fun y st => oI st fun x st => (wI y ≤ wI x → xk_X12_ones ct K R n 49 ls st σ k) ∧ (¬ (wI y ≤ wI x) → xk_X12_ones ct K R n 32 ls st σ k)) := exS_step.trans rfl
theorem ev_X12_ones_32 {ct : Nat → Bool} {K : Kt} {R : Option AV → Hp → Prop} {n : Nat} {ls : List (Option AV)} {st : List AV} {σ : Hp} {k : Nat × Nat} : xe_X12_ones ct K R (n + 1) 32 ls st σ k = (lR ls 0 fun x => xk_X12_ones ct K R n 33 ls (vr x :: st) σ k) := exS_step.trans rfl
theorem ev_X12_ones_33 {ct : Nat → Bool} {K : Kt} {R : Option AV → Hp → Prop} {n : Nat} {ls : List (Option AV)} {st : List AV} {σ : Hp} {k : Nat × Nat} : xe_X12_ones ct K R (n + 1) 33 ls st σ k = (lI ls 2 fun x => xk_X12_ones ct K R n 34 ls (vi x :: st) σ k) := exS_step.trans rfl
theorem ev_X12_ones_34 {ct : Nat → Bool} {K : Kt} {R : Option AV → Hp → Prop} {n : Nat} {ls : List (Option AV)} {st : List AV} {σ : Hp} {k : Nat × Nat} : xe_X12_ones ct K R (n + 1) 34 ls st σ k = (xk_X12_ones ct K R n 35 ls (vi (-1) :: st) σ k) := exS_step.trans rfl
theorem ev_X12_ones_35 {ct : Nat → Bool} {K : Kt} {R : Option AV → Hp → Prop} {n : Nat} {ls : List (Option AV)} {st : List AV} {σ : Hp} {k : Nat × Nat} : xe_X12_ones ct K R (n + 1) 35 ls st σ k = (xk_X12_ones ct K R n 36 ls (vi (-1) :: st) σ k) := exS_step.trans rfl
theorem ev_X12_ones_36 {ct : Nat → Bool} {K : Kt} {R : Option AV → Hp → Prop} {n : Nat} {ls : List (Option AV)} {st : List AV} {σ : Hp} {k : Nat × Nat} : xe_X12_ones ct K R (n + 1) 36 ls st σ k = (popN 4 st [] fun av rest => (catS rest ≤ 8 ∧ 1 < 3 ∧ k.1 + 0 ≤ 0 ∧ k.2 + 0 ≤ 0) ∧ (sp_X12_areAll) av σ fun v σ' => xk_X12_ones ct K R n 39 ls (v.toList ++ rest) σ' (k.1 + 0, k.2 + 0)) := exS_step.trans rfl
theorem ev_X12_ones_39 {ct : Nat → Bool} {K : Kt} {R : Option AV → Hp → Prop} {n : Nat} {ls : List (Option AV)} {st : List AV} {σ : Hp} {k : Nat × Nat} : xe_X12_ones ct K R (n + 1) 39 ls st σ k = (oI st fun x st => (wI x = wI 0 → xk_X12_ones ct K R n 49 ls st σ k) ∧ (¬ (wI x = wI 0) → xk_X12_ones ct K R n 42 ls st σ k)) := exS_step.trans rfl
theorem ev_X12_ones_42 {ct : Nat → Bool} {K : Kt} {R : Option AV → Hp → Prop} {n : Nat} {ls : List (Option AV)} {st : List AV} {σ : Hp} {k : Nat × Nat} : xe_X12_ones ct K R (n + 1) 42 ls st σ k = (lR ls 0 fun x => xk_X12_ones ct K R n 43 ls (vr x :: st) σ k) := exS_step.trans rfl
theorem ev_X12_ones_43 {ct : Nat → Bool} {K : Kt} {R : Option AV → Hp → Prop} {n : Nat} {ls : List (Option AV)} {st : List AV} {σ : Hp} {k : Nat × Nat} : xe_X12_ones ct K R (n + 1) 43 ls st σ k = (lI ls 2 fun x => xk_X12_ones ct K R n 44 ls (vi x :: st) σ k) := exS_step.trans rfl
theorem ev_X12_ones_44 {ct : Nat → Bool} {K : Kt} {R : Option AV → Hp → Prop} {n : Nat} {ls : List (Option AV)} {st : List AV} {σ : Hp} {k : Nat × Nat} : xe_X12_ones ct K R (n + 1) 44 ls st σ k = (xk_X12_ones ct K R n 45 ls (vi (-1) :: st) σ k) := exS_step.trans rfl
theorem ev_X12_ones_45 {ct : Nat → Bool} {K : Kt} {R : Option AV → Hp → Prop} {n : Nat} {ls : List (Option AV)} {st : List AV} {σ : Hp} {k : Nat × Nat} : xe_X12_ones ct K R (n + 1) 45 ls st σ k = (xk_X12_ones ct K R n 46 ls (vi (-1) :: st) σ k) := exS_step.trans rfl
theorem ev_X12_ones_46 {ct : Nat → Bool} {K : Kt} {R : Option AV → Hp → Prop} {n : Nat} {ls : List (Option AV)} {st : List AV} {σ : Hp} {k : Nat × Nat} : xe_X12_ones ct K R (n + 1) 46 ls st σ k = (popN 4 st [] fun av rest => (catS rest ≤ 8 ∧ 2 < 3 ∧ k.1 + 0 ≤ 0 ∧ k.2 + 0 ≤ 0) ∧ (sp_X12_tells) av σ fun v σ' => xk_X12_ones ct K R n 49 ls (v.toList ++ rest) σ' (k.1 + 0, k.2 + 0)) := exS_step.trans rfl
theorem ev_X12_ones_49 {ct : Nat → Bool} {K : Kt} {R : Option AV → Hp → Prop} {n : Nat} {ls : List (Option AV)} {st : List AV} {σ : Hp} {k : Nat × Nat} : xe_X12_ones ct K R (n + 1) 49 ls st σ k = (lI ls 2 fun x => 2 < 3 ∧ xk_X12_ones ct K R n 52 (stL ls 2 (vi (x + (1)))) st σ k) := exS_step.trans rfl
theorem ev_X12_ones_52 {ct : Nat → Bool} {K : Kt} {R : Option AV → Hp → Prop} {n : Nat} {ls : List (Option AV)} {st : List AV} {σ : Hp} {k : Nat × Nat} : xe_X12_ones ct K R (n + 1) 52 ls st σ k = (xk_X12_ones ct K R n 2 ls st σ k) := exS_step.trans rfl
theorem ev_X12_ones_55 {ct : Nat → Bool} {K : Kt} {R : Option AV → Hp → Prop} {n : Nat} {ls : List (Option AV)} {st : List AV} {σ : Hp} {k : Nat × Nat} : xe_X12_ones ct K R (n + 1) 55 ls st σ k = (st = [] ∧ 0 = 0 ∧ R none σ) := exS_step.trans rfl
def M_X12_ones : Md := (yX12_ones, cX12_ones, 3, (none : Option FieldType), 3, 0, 0, 0, false, tb_X12_ones, mt_X12_ones)
theorem mm_X12_ones : MMOK M_X12_ones := ⟨by decide +kernel, tk_X12_ones, mk_X12_ones, rfl, fun h => by cases h⟩
theorem go_X12_ones {Q : Option AV → Hp → Prop} {ct : Nat → Bool} {pc : Nat} {ls : List (Option AV)} {st : List AV} {σ : Hp} {k : Nat × Nat} (n : Nat) (h : xe_X12_ones ct (Go M_X12_ones Q) Q n pc ls st σ k) : Go M_X12_ones Q pc ls st σ k := Go.exS mm_X12_ones h

set_option maxRecDepth 20000 in
theorem on_2 (h0 : Pc τ0 H K n sp e) (w : ∀ τ xs, Wt τ0 τ → Told τ xs → Sg (Sm H K n sp 1) xs → Q none τ) : ∀ (m : Nat) (a : Int) (τ : Hp) (xs : List (List Int)), 0 ≤ a → a + m = 300 * n → Wt τ0 τ → Told τ xs → SgB (Sm H K n sp 1) (k13 a) xs → Go M_X12_ones Q 2 [some (vr 61), some (vi n), some (vi a)] [] τ (0, 0) := by
  have hn := h0.1
  have hsp := h0.2.2.1
  intro m
  induction m with
  | zero =>
    intro a τ xs ha hm hW hTd hS
    have hkd : kd τ 61 = 13 := hW.1.lay.1
    have ea : a = 300 * n := by omega
    have w := w τ xs hW hTd (hS.all (fun x hx => by
      obtain ⟨p, rfl⟩ := len1 hx.2
      rw [keyL_1]
      have := (ST1.mp hx.1).1
      exact k13_mono (by omega)))
    rw [ea]
    refine go_X12_ones (ct := fun p => p == 11) 20 ?_
    simp only [oI, oL, oR, o1, lI, lL, lR, popN, catS, gv, stL, stL2, swt, cnd, spObj, List.getElem?_cons_zero, List.getElem?_cons_succ, List.getD_cons_zero, List.getD_cons_succ, List.set_cons_zero, List.set_cons_succ, List.nil_append, List.cons_append, Option.toList, Bool.or_false, Bool.false_or, Bool.or_true, Bool.true_or, Nat.reduceBEq, Nat.reduceAdd, Nat.reduceLT, Nat.reduceLeDiff, Int.reduceAdd, Int.reduceToNat, true_and, and_true, Fin.isValue, Fin.val_zero, Fin.val_one, Fin.val_two, Fin.reduceFinMk, eq_self, Int.reduceNeg, imp_self, Nat.reduceMul, Nat.le_refl, not_true_eq_false, not_false_eq_true, List.getElem?_nil, reduceCtorEq, true_or, or_true, Classical.not_not, implies_true, or_self, wI_0, wI_1, wI_m1, b2i_w, b2i_eq0, b2i_eq1, b2i_bool, nor_self, nx_pI, kd_pI, ln_pI, fI_pI, fL_pI, fR_pI, aI_pI, aL_pI, aR_pI, nx_pL, kd_pL, ln_pL, fI_pL, fL_pL, fR_pL, aI_pL, aL_pL, aR_pL, nx_pR, kd_pR, ln_pR, fI_pR, fL_pR, fR_pR, aI_pR, aL_pR, aR_pR, nx_qI, kd_qI, ln_qI, fI_qI, fL_qI, fR_qI, aI_qI, aL_qI, aR_qI, nx_qL, kd_qL, ln_qL, fI_qL, fL_qL, fR_qL, aI_qL, aL_qL, aR_qL, nx_qR, kd_qR, ln_qR, fI_qR, fL_qR, fR_qR, aI_qR, aL_qR, aR_qR, nx_mk, kd_mk, ln_mk, fI_mk, fL_mk, fR_mk, aI_mk, aL_mk, aR_mk, false_and, and_false, if_false, if_true, and_self, Int.reduceEq, Nat.reduceEqDiff, ite_self, MLay_pI, MLay_pL, MLay_qI, MLay_qL, ev_X12_ones_2, ev_X12_ones_3, ev_X12_ones_6, ev_X12_ones_7, ev_X12_ones_8, ev_X12_ones_55, xt_X12_ones, xf_X12_ones, us_X12_areAll, us_X12_tells, hkd]
    try simp (disch := omega) only [wI_id, dv_nn, rm_nn]
    repeat' (first | intro z | apply And.intro)
    all_goals try omega
    all_goals exact w
  | succ m ih =>
    intro a τ xs ha hm hW hTd hS
    have hT := hW.1
    have hkd : kd τ 61 = 13 := hT.lay.1
    have hP := h0.keep hW
    have es := hP.2.1
    have hmy := hT.may_ a
    have hwa : wI a = a := wI_id (by omega) (by omega)
    have hwm : wI (aI τ 82 a) = aI τ 82 a := wI_id (by omega) (by omega)
    have hrm : rmI a 300 = a % 300 := rm_nn (by omega) (by omega) (by omega) (by omega)
    have noS : ¬ ST H K n sp [a] → Go M_X12_ones Q 2 [some (vr 61), some (vi n), some (vi (a + 1))] [] τ (0, 0) := fun c => ih (a + 1) τ xs (by omega) (by omega) hW hTd (hS.skip (Int.le_of_lt (k13_mono (by omega))) fun x hx q1 q2 => by
      obtain ⟨p, rfl⟩ := len1 hx.2
      rw [keyL_1] at q1 q2
      have := k13_bt q1 q2
      subst this
      exact c hx.1)
    by_cases c1 : aI τ 82 a = 0
    · by_cases c2 : a % 300 < sp
      · have w := noS (fun q => by
          have hv : VP n sp a := (ST1.mp q).1
          have := (hP.2.2.2.2.2.2.2.2.1 a hv).2
          rw [c1, b2i_t (fun u q1 q2 q3 => ((ST1.mp q).2 u q1 q2).mpr q3)] at this
          omega)
        refine go_X12_ones (ct := fun p => p == 20 || p == 2) 30 ?_
        simp only [oI, oL, oR, o1, lI, lL, lR, popN, catS, gv, stL, stL2, swt, cnd, spObj, List.getElem?_cons_zero, List.getElem?_cons_succ, List.getD_cons_zero, List.getD_cons_succ, List.set_cons_zero, List.set_cons_succ, List.nil_append, List.cons_append, Option.toList, Bool.or_false, Bool.false_or, Bool.or_true, Bool.true_or, Nat.reduceBEq, Nat.reduceAdd, Nat.reduceLT, Nat.reduceLeDiff, Int.reduceAdd, Int.reduceToNat, true_and, and_true, Fin.isValue, Fin.val_zero, Fin.val_one, Fin.val_two, Fin.reduceFinMk, eq_self, Int.reduceNeg, imp_self, Nat.reduceMul, Nat.le_refl, not_true_eq_false, not_false_eq_true, List.getElem?_nil, reduceCtorEq, true_or, or_true, Classical.not_not, implies_true, or_self, wI_0, wI_1, wI_m1, b2i_w, b2i_eq0, b2i_eq1, b2i_bool, nor_self, nx_pI, kd_pI, ln_pI, fI_pI, fL_pI, fR_pI, aI_pI, aL_pI, aR_pI, nx_pL, kd_pL, ln_pL, fI_pL, fL_pL, fR_pL, aI_pL, aL_pL, aR_pL, nx_pR, kd_pR, ln_pR, fI_pR, fL_pR, fR_pR, aI_pR, aL_pR, aR_pR, nx_qI, kd_qI, ln_qI, fI_qI, fL_qI, fR_qI, aI_qI, aL_qI, aR_qI, nx_qL, kd_qL, ln_qL, fI_qL, fL_qL, fR_qL, aI_qL, aL_qL, aR_qL, nx_qR, kd_qR, ln_qR, fI_qR, fL_qR, fR_qR, aI_qR, aL_qR, aR_qR, nx_mk, kd_mk, ln_mk, fI_mk, fL_mk, fR_mk, aI_mk, aL_mk, aR_mk, false_and, and_false, if_false, if_true, and_self, Int.reduceEq, Nat.reduceEqDiff, ite_self, MLay_pI, MLay_pL, MLay_qI, MLay_qL, ev_X12_ones_2, ev_X12_ones_3, ev_X12_ones_6, ev_X12_ones_7, ev_X12_ones_8, ev_X12_ones_11, ev_X12_ones_12, ev_X12_ones_15, ev_X12_ones_16, ev_X12_ones_17, ev_X12_ones_20, ev_X12_ones_21, ev_X12_ones_24, ev_X12_ones_25, ev_X12_ones_26, ev_X12_ones_29, ev_X12_ones_32, ev_X12_ones_33, ev_X12_ones_34, ev_X12_ones_35, ev_X12_ones_36, ev_X12_ones_39, ev_X12_ones_42, ev_X12_ones_43, ev_X12_ones_44, ev_X12_ones_45, ev_X12_ones_46, ev_X12_ones_49, ev_X12_ones_52, xt_X12_ones, xf_X12_ones, us_X12_areAll, us_X12_tells, hkd, hT.lay.eqs, c1, not_true_eq_false, not_false_eq_true, false_imp_iff, true_imp_iff]
        try simp (disch := omega) only [wI_id, dv_nn, rm_nn]
        repeat' (first | intro z | apply And.intro)
        all_goals try omega
        all_goals exact w
      · have w := noS (fun q => c2 (ST1.mp q).1.2.2)
        refine go_X12_ones (ct := fun p => p == 20 || p == 2) 30 ?_
        simp only [oI, oL, oR, o1, lI, lL, lR, popN, catS, gv, stL, stL2, swt, cnd, spObj, List.getElem?_cons_zero, List.getElem?_cons_succ, List.getD_cons_zero, List.getD_cons_succ, List.set_cons_zero, List.set_cons_succ, List.nil_append, List.cons_append, Option.toList, Bool.or_false, Bool.false_or, Bool.or_true, Bool.true_or, Nat.reduceBEq, Nat.reduceAdd, Nat.reduceLT, Nat.reduceLeDiff, Int.reduceAdd, Int.reduceToNat, true_and, and_true, Fin.isValue, Fin.val_zero, Fin.val_one, Fin.val_two, Fin.reduceFinMk, eq_self, Int.reduceNeg, imp_self, Nat.reduceMul, Nat.le_refl, not_true_eq_false, not_false_eq_true, List.getElem?_nil, reduceCtorEq, true_or, or_true, Classical.not_not, implies_true, or_self, wI_0, wI_1, wI_m1, b2i_w, b2i_eq0, b2i_eq1, b2i_bool, nor_self, nx_pI, kd_pI, ln_pI, fI_pI, fL_pI, fR_pI, aI_pI, aL_pI, aR_pI, nx_pL, kd_pL, ln_pL, fI_pL, fL_pL, fR_pL, aI_pL, aL_pL, aR_pL, nx_pR, kd_pR, ln_pR, fI_pR, fL_pR, fR_pR, aI_pR, aL_pR, aR_pR, nx_qI, kd_qI, ln_qI, fI_qI, fL_qI, fR_qI, aI_qI, aL_qI, aR_qI, nx_qL, kd_qL, ln_qL, fI_qL, fL_qL, fR_qL, aI_qL, aL_qL, aR_qL, nx_qR, kd_qR, ln_qR, fI_qR, fL_qR, fR_qR, aI_qR, aL_qR, aR_qR, nx_mk, kd_mk, ln_mk, fI_mk, fL_mk, fR_mk, aI_mk, aL_mk, aR_mk, false_and, and_false, if_false, if_true, and_self, Int.reduceEq, Nat.reduceEqDiff, ite_self, MLay_pI, MLay_pL, MLay_qI, MLay_qL, ev_X12_ones_2, ev_X12_ones_3, ev_X12_ones_6, ev_X12_ones_7, ev_X12_ones_8, ev_X12_ones_11, ev_X12_ones_12, ev_X12_ones_15, ev_X12_ones_16, ev_X12_ones_17, ev_X12_ones_20, ev_X12_ones_21, ev_X12_ones_24, ev_X12_ones_25, ev_X12_ones_26, ev_X12_ones_29, ev_X12_ones_32, ev_X12_ones_33, ev_X12_ones_34, ev_X12_ones_35, ev_X12_ones_36, ev_X12_ones_39, ev_X12_ones_42, ev_X12_ones_43, ev_X12_ones_44, ev_X12_ones_45, ev_X12_ones_46, ev_X12_ones_49, ev_X12_ones_52, xt_X12_ones, xf_X12_ones, us_X12_areAll, us_X12_tells, hkd, hT.lay.eqs, c1, not_true_eq_false, not_false_eq_true, false_imp_iff, true_imp_iff]
        try simp (disch := omega) only [wI_id, dv_nn, rm_nn]
        repeat' (first | intro z | apply And.intro)
        all_goals try omega
        all_goals exact w
    · by_cases c2 : a % 300 < sp
      · have hv : VP n sp a := ⟨ha, by omega, c2⟩
        have hA := are1 hP hv
        have b1 : -1 ≤ a ∧ a < 3600 := by omega
        have b2 : (-1 : Int) ≤ -1 ∧ (-1 : Int) < 3600 := by decide
        by_cases c3 : mAre τ a (-1) (-1)
        · have hst : ST H K n sp [a] := ST1.mpr ⟨hv, hA.mp c3⟩
          have hl : fI τ 1331 61 + a % 300 ≤ 1000000 := by have := hP.2.2.2.2.2.2.2.2.2.2.2.2; omega
          have hW2 := hW.tells (a := a) (b := -1) (c := -1) (fun _ => hl) (fun q => absurd q (by decide)) (fun q => absurd q (by decide))
          have hT2 := told_tells hTd hS.2.2.1 (a := a) (b := -1) (c := -1) (fun _ => by decide) (fun _ => by decide)
          have eL : toL a (-1) (-1) = [a] := by unfold toL; rw [if_neg (by omega)]; rfl
          rw [eL] at hT2
          have w := ih (a + 1) _ _ (by omega) (by omega) hW2 hT2 (hS.add (x0 := [a]) ⟨hst, rfl⟩ (by rw [keyL_1]; exact Int.le_refl _) (by rw [keyL_1]; exact k13_mono (by omega)) (fun x hx q1 q2 => by
            obtain ⟨p, rfl⟩ := len1 hx.2
            rw [keyL_1] at q1 q2
            rw [k13_bt q1 q2]))
          have hr := hP.2.2.2.2.2.2.2.2.2.2.2.1
          have hst2 : fI τ 1331 61 ≤ 999700 + (300 - fI τ 1329 61) := by rw [es]; exact hP.2.2.2.2.2.2.2.2.2.2.2.2
          have z1 : (0 ≤ a → a % 300 < fI τ 1329 61) = True := eq_true (fun _ => by rw [es]; exact c2)
          have z2 : ((0 : Int) ≤ -1 → -1 % 300 < fI τ 1329 61) = True := eq_true (fun q => absurd q (by decide))
          have cT := eq_true c3
          refine go_X12_ones (ct := fun p => p == 2) 60 ?_
          simp only [oI, oL, oR, o1, lI, lL, lR, popN, catS, gv, stL, stL2, swt, cnd, spObj, List.getElem?_cons_zero, List.getElem?_cons_succ, List.getD_cons_zero, List.getD_cons_succ, List.set_cons_zero, List.set_cons_succ, List.nil_append, List.cons_append, Option.toList, Bool.or_false, Bool.false_or, Bool.or_true, Bool.true_or, Nat.reduceBEq, Nat.reduceAdd, Nat.reduceLT, Nat.reduceLeDiff, Int.reduceAdd, Int.reduceToNat, true_and, and_true, Fin.isValue, Fin.val_zero, Fin.val_one, Fin.val_two, Fin.reduceFinMk, eq_self, Int.reduceNeg, imp_self, Nat.reduceMul, Nat.le_refl, not_true_eq_false, not_false_eq_true, List.getElem?_nil, reduceCtorEq, true_or, or_true, Classical.not_not, implies_true, or_self, wI_0, wI_1, wI_m1, b2i_w, b2i_eq0, b2i_eq1, b2i_bool, nor_self, nx_pI, kd_pI, ln_pI, fI_pI, fL_pI, fR_pI, aI_pI, aL_pI, aR_pI, nx_pL, kd_pL, ln_pL, fI_pL, fL_pL, fR_pL, aI_pL, aL_pL, aR_pL, nx_pR, kd_pR, ln_pR, fI_pR, fL_pR, fR_pR, aI_pR, aL_pR, aR_pR, nx_qI, kd_qI, ln_qI, fI_qI, fL_qI, fR_qI, aI_qI, aL_qI, aR_qI, nx_qL, kd_qL, ln_qL, fI_qL, fL_qL, fR_qL, aI_qL, aL_qL, aR_qL, nx_qR, kd_qR, ln_qR, fI_qR, fL_qR, fR_qR, aI_qR, aL_qR, aR_qR, nx_mk, kd_mk, ln_mk, fI_mk, fL_mk, fR_mk, aI_mk, aL_mk, aR_mk, false_and, and_false, if_false, if_true, and_self, Int.reduceEq, Nat.reduceEqDiff, ite_self, MLay_pI, MLay_pL, MLay_qI, MLay_qL, ev_X12_ones_2, ev_X12_ones_3, ev_X12_ones_6, ev_X12_ones_7, ev_X12_ones_8, ev_X12_ones_11, ev_X12_ones_12, ev_X12_ones_15, ev_X12_ones_16, ev_X12_ones_17, ev_X12_ones_20, ev_X12_ones_21, ev_X12_ones_24, ev_X12_ones_25, ev_X12_ones_26, ev_X12_ones_29, ev_X12_ones_32, ev_X12_ones_33, ev_X12_ones_34, ev_X12_ones_35, ev_X12_ones_36, ev_X12_ones_39, ev_X12_ones_42, ev_X12_ones_43, ev_X12_ones_44, ev_X12_ones_45, ev_X12_ones_46, ev_X12_ones_49, ev_X12_ones_52, xt_X12_ones, xf_X12_ones, us_X12_areAll, us_X12_tells, hkd, hT, hT.lay.eqs, es, hrm, hwm, c1, cT, b1, b2, b2i_T, hr, hst2, z1, z2, not_true_eq_false, not_false_eq_true, false_imp_iff, true_imp_iff]
          try simp (disch := omega) only [wI_id, dv_nn, rm_nn]
          repeat' (first | intro z | apply And.intro)
          all_goals try omega
          all_goals first | exact w | trace_state
        · have w := noS (fun q => c3 (hA.mpr (ST1.mp q).2))
          have cF := eq_false c3
          refine go_X12_ones (ct := fun p => p == 42 || p == 2) 40 ?_
          simp only [oI, oL, oR, o1, lI, lL, lR, popN, catS, gv, stL, stL2, swt, cnd, spObj, List.getElem?_cons_zero, List.getElem?_cons_succ, List.getD_cons_zero, List.getD_cons_succ, List.set_cons_zero, List.set_cons_succ, List.nil_append, List.cons_append, Option.toList, Bool.or_false, Bool.false_or, Bool.or_true, Bool.true_or, Nat.reduceBEq, Nat.reduceAdd, Nat.reduceLT, Nat.reduceLeDiff, Int.reduceAdd, Int.reduceToNat, true_and, and_true, Fin.isValue, Fin.val_zero, Fin.val_one, Fin.val_two, Fin.reduceFinMk, eq_self, Int.reduceNeg, imp_self, Nat.reduceMul, Nat.le_refl, not_true_eq_false, not_false_eq_true, List.getElem?_nil, reduceCtorEq, true_or, or_true, Classical.not_not, implies_true, or_self, wI_0, wI_1, wI_m1, b2i_w, b2i_eq0, b2i_eq1, b2i_bool, nor_self, nx_pI, kd_pI, ln_pI, fI_pI, fL_pI, fR_pI, aI_pI, aL_pI, aR_pI, nx_pL, kd_pL, ln_pL, fI_pL, fL_pL, fR_pL, aI_pL, aL_pL, aR_pL, nx_pR, kd_pR, ln_pR, fI_pR, fL_pR, fR_pR, aI_pR, aL_pR, aR_pR, nx_qI, kd_qI, ln_qI, fI_qI, fL_qI, fR_qI, aI_qI, aL_qI, aR_qI, nx_qL, kd_qL, ln_qL, fI_qL, fL_qL, fR_qL, aI_qL, aL_qL, aR_qL, nx_qR, kd_qR, ln_qR, fI_qR, fL_qR, fR_qR, aI_qR, aL_qR, aR_qR, nx_mk, kd_mk, ln_mk, fI_mk, fL_mk, fR_mk, aI_mk, aL_mk, aR_mk, false_and, and_false, if_false, if_true, and_self, Int.reduceEq, Nat.reduceEqDiff, ite_self, MLay_pI, MLay_pL, MLay_qI, MLay_qL, ev_X12_ones_2, ev_X12_ones_3, ev_X12_ones_6, ev_X12_ones_7, ev_X12_ones_8, ev_X12_ones_11, ev_X12_ones_12, ev_X12_ones_15, ev_X12_ones_16, ev_X12_ones_17, ev_X12_ones_20, ev_X12_ones_21, ev_X12_ones_24, ev_X12_ones_25, ev_X12_ones_26, ev_X12_ones_29, ev_X12_ones_32, ev_X12_ones_33, ev_X12_ones_34, ev_X12_ones_35, ev_X12_ones_36, ev_X12_ones_39, ev_X12_ones_42, ev_X12_ones_43, ev_X12_ones_44, ev_X12_ones_45, ev_X12_ones_46, ev_X12_ones_49, ev_X12_ones_52, xt_X12_ones, xf_X12_ones, us_X12_areAll, us_X12_tells, hkd, hT, hT.lay.eqs, es, hrm, hwm, c1, cF, b1, b2, b2i_F, not_true_eq_false, not_false_eq_true, false_imp_iff, true_imp_iff]
          try simp (disch := omega) only [wI_id, dv_nn, rm_nn]
          repeat' (first | intro z | apply And.intro)
          all_goals try omega
          all_goals exact w
      · have w := noS (fun q => c2 (ST1.mp q).1.2.2)
        refine go_X12_ones (ct := fun p => p == 32 || p == 2) 30 ?_
        simp only [oI, oL, oR, o1, lI, lL, lR, popN, catS, gv, stL, stL2, swt, cnd, spObj, List.getElem?_cons_zero, List.getElem?_cons_succ, List.getD_cons_zero, List.getD_cons_succ, List.set_cons_zero, List.set_cons_succ, List.nil_append, List.cons_append, Option.toList, Bool.or_false, Bool.false_or, Bool.or_true, Bool.true_or, Nat.reduceBEq, Nat.reduceAdd, Nat.reduceLT, Nat.reduceLeDiff, Int.reduceAdd, Int.reduceToNat, true_and, and_true, Fin.isValue, Fin.val_zero, Fin.val_one, Fin.val_two, Fin.reduceFinMk, eq_self, Int.reduceNeg, imp_self, Nat.reduceMul, Nat.le_refl, not_true_eq_false, not_false_eq_true, List.getElem?_nil, reduceCtorEq, true_or, or_true, Classical.not_not, implies_true, or_self, wI_0, wI_1, wI_m1, b2i_w, b2i_eq0, b2i_eq1, b2i_bool, nor_self, nx_pI, kd_pI, ln_pI, fI_pI, fL_pI, fR_pI, aI_pI, aL_pI, aR_pI, nx_pL, kd_pL, ln_pL, fI_pL, fL_pL, fR_pL, aI_pL, aL_pL, aR_pL, nx_pR, kd_pR, ln_pR, fI_pR, fL_pR, fR_pR, aI_pR, aL_pR, aR_pR, nx_qI, kd_qI, ln_qI, fI_qI, fL_qI, fR_qI, aI_qI, aL_qI, aR_qI, nx_qL, kd_qL, ln_qL, fI_qL, fL_qL, fR_qL, aI_qL, aL_qL, aR_qL, nx_qR, kd_qR, ln_qR, fI_qR, fL_qR, fR_qR, aI_qR, aL_qR, aR_qR, nx_mk, kd_mk, ln_mk, fI_mk, fL_mk, fR_mk, aI_mk, aL_mk, aR_mk, false_and, and_false, if_false, if_true, and_self, Int.reduceEq, Nat.reduceEqDiff, ite_self, MLay_pI, MLay_pL, MLay_qI, MLay_qL, ev_X12_ones_2, ev_X12_ones_3, ev_X12_ones_6, ev_X12_ones_7, ev_X12_ones_8, ev_X12_ones_11, ev_X12_ones_12, ev_X12_ones_15, ev_X12_ones_16, ev_X12_ones_17, ev_X12_ones_20, ev_X12_ones_21, ev_X12_ones_24, ev_X12_ones_25, ev_X12_ones_26, ev_X12_ones_29, ev_X12_ones_32, ev_X12_ones_33, ev_X12_ones_34, ev_X12_ones_35, ev_X12_ones_36, ev_X12_ones_39, ev_X12_ones_42, ev_X12_ones_43, ev_X12_ones_44, ev_X12_ones_45, ev_X12_ones_46, ev_X12_ones_49, ev_X12_ones_52, xt_X12_ones, xf_X12_ones, us_X12_areAll, us_X12_tells, hkd, hT.lay.eqs, es, hrm, hwm, c1]
        try simp (disch := omega) only [wI_id, dv_nn, rm_nn]
        repeat' (first | intro z | apply And.intro)
        all_goals try omega
        all_goals exact w

end ON

/-! the law as a method of a machine that keeps no traces -/

/-- what the start gives beside: no traces, Throwable's two statics -/
def PX (g : GG) (l : Launch) (s : State) : Prop := l.stackTraces = false ∧ vx_Zq Bundle.tN "UNASSIGNED_STACK" Bundle.steD (AF g) s s.heap ∧ vx_Zq Bundle.tN "SUPPRESSED_SENTINEL" Bundle.listD (AF g) s s.heap
def GoFD (M : Md) (QQ : Option AV → Hp → Prop) (pc : Nat) (ls : List (Option AV)) (st : List AV) (σ : Hp) (k : Nat × Nat) : Prop :=
  ∀ (g : GG) (p : Program) (l : Launch) (e : Env) (s : State) (m : MethodId) (args : Array Value) (below : List Frame) (meth : Method) (cd : Code), PX g l s → MC g p s m args meth cd M.1.cls M.2.1 M.2.2.1 M.2.2.2.1 → (M.2.2.2.2.2.2.2.2.1 = true → meth.name = M.1.name) →
    WW g p l e s m args below meth cd M.2.2.1 M.2.2.2.2.1 M.2.2.2.2.2.1 M.2.2.2.2.2.2.1 (MQ below (OutS g QQ) args s M.2.2.2.2.2.1 M.2.2.2.2.2.2.1 (AF g)) pc ls st σ k
theorem GoF_is : ∃ f : Md → (Option AV → Hp → Prop) → Nat → List (Option AV) → List AV → Hp → Nat × Nat → Prop, f = GoFD := ⟨_, rfl⟩
noncomputable def GoF : Md → (Option AV → Hp → Prop) → Nat → List (Option AV) → List AV → Hp → Nat × Nat → Prop := Classical.choose GoF_is
theorem GoF_eq : GoF = GoFD := Classical.choose_spec GoF_is
theorem GoF_exS {M : Md} (hM : MMOK M) {QQ : Option AV → Hp → Prop} {ct : Nat → Bool} {n pc : Nat} {ls : List (Option AV)} {st : List AV} {σ : Hp} {k : Nat × Nat} (h : exS M.2.2.1 M.2.2.2.2.1 M.2.2.2.2.2.1 M.2.2.2.2.2.2.1 M.2.2.2.2.2.2.2.1 M.2.2.2.2.2.2.2.2.2.1 M.2.2.2.2.2.2.2.2.2.2 ct (GoF M QQ) QQ n pc ls st σ k) : GoF M QQ pc ls st σ k := by
  rw [exS_eq] at h
  rw [GoF_eq] at h ⊢
  exact fun g p l e s m args below meth cd X C hn => ex_sound C hM.2.2.1 (fun hi => (hn hi).trans (hM.2.2.2.2 hi)) hM.2.2.2.1 hM.2.1 (fun _ _ _ _ _ hk => hk g p l e s m args below meth cd X C hn) n pc ls st σ k h
theorem GoF_wf {M : Md} {QQ : Option AV → Hp → Prop} {pc : Nat} {ls : List (Option AV)} {st : List AV} {σ : Hp} {k : Nat × Nat} (h : Wf σ → GoF M QQ pc ls st σ k) : GoF M QQ pc ls st σ k := by
  rw [GoF_eq] at h ⊢
  intro g p l e s m args below meth cd X C hn H locs la h1 h2 h3 h4 h5
  exact h h1.2.1 g p l e s m args below meth cd X C hn H locs la h1 h2 h3 h4 h5
theorem gof_L_law {Q : Option AV → Hp → Prop} {ct : Nat → Bool} {pc : Nat} {ls : List (Option AV)} {st : List AV} {σ : Hp} {k : Nat × Nat} (n : Nat) (h : xe_L_law ct (GoF M_L_law Q) Q n pc ls st σ k) : GoF M_L_law Q pc ls st σ k := GoF_exS mm_L_law h
/-- the step's end: the law goes on wherever all holds again -/
def NX (Q : Option AV → Hp → Prop) (b n i : Int) (kc ks : Nat) : Prop := ∀ (σ' : Hp) (k1 k2 : Nat) (a5 a6 : Option AV), Fu b n σ' → k1 ≤ kc + 3 → k2 ≤ ks + 314 → GoF M_L_law Q 1333 [some (vr b), some (vr 1), some (vr 61), some (vr 120), some (vi i), a5, a6] [] σ' (k1, k2)
theorem Scp.fz9 {fs : List Nat} {ars als : Int → Prop} {σ σ1 : Hp} {b n : Int} (hS : Scp σ b n) (z : Fz fs ars als σ σ1) (hb : ¬ ars b) : Scp σ1 b n ∧ aI σ1 b = aI σ b := by
  have e := z.aI hb
  refine ⟨?_, e⟩
  unfold Scp at *
  rw [z.kd, z.ln, e]
  exact hS
theorem Scp.kp9 {P A : Int → Prop} {σ σ1 : Hp} {b n : Int} (hS : Scp σ b n) (z : Kp P A σ σ1) : Scp σ1 b n ∧ aI σ1 b = aI σ b := ⟨hS.kp z, z.ai (by rw [hS.1.1]; decide)⟩

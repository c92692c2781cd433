/-! what the JDK's own methods ask beside the evaluator -/

theorem Go.wf {M : Md} {QQ : Option AV → Hp → Prop} {pc : Nat} {ls : List (Option AV)} {st : List AV} {σ : Hp} {k : Nat × Nat} (h : Wf σ → Go M QQ pc ls st σ k) : Go M QQ pc ls st σ k := by
  rw [Go_eq] at h ⊢
  intro g p l e s m args below meth cd C hn H locs la h1 h2 h3 h4 h5
  exact h h1.2.1 g p l e s m args below meth cd C hn H locs la h1 h2 h3 h4 h5
theorem Go.widen {M : Md} {QQ : Option AV → Hp → Prop} {pc : Nat} {ls : List (Option AV)} {st : List AV} {σ : Hp} {k : Nat × Nat} (k' : Nat × Nat) (h1 : k.1 ≤ k'.1) (h2 : k.2 ≤ k'.2) (h3 : k'.1 ≤ M.2.2.2.2.2.1) (h4 : k'.2 ≤ M.2.2.2.2.2.2.1) (h : Go M QQ pc ls st σ k') : Go M QQ pc ls st σ k := by
  rw [Go_eq] at h ⊢
  intro g p l e s m args below meth cd C hn H locs la b1 b2 b3 b4 b5
  exact W.widen h1 h2 (h g p l e s m args below meth cd C hn H locs la b1 b2 b3 h3 h4)
section RW6
variable {g : GG} {p : Program} {l : Launch} {e : Env} {s : State} {m : MethodId} {args : Array Value} {below : List Frame} {meth : Method} {cd : Code} {nL lv mc ms : Nat} {Q : State → Prop}
variable {own : String} {cc : ByteArray} {ret : Option FieldType} {pc : Nat} {ls : List (Option AV)} {st : List AV} {σ : Hp} {k : Nat × Nat}
theorem WW.widen (k' : Nat × Nat) (h1 : k.1 ≤ k'.1) (h2 : k.2 ≤ k'.2) (h3 : k'.1 ≤ mc) (h4 : k'.2 ≤ ms) (h : WW g p l e s m args below meth cd nL lv mc ms Q pc ls st σ k') : WW g p l e s m args below meth cd nL lv mc ms Q pc ls st σ k := fun H locs la b1 b2 b3 b4 b5 =>
  W.widen h1 h2 (h H locs la b1 b2 b3 h3 h4)
theorem c32_i2b {x : Int} (h : 0 ≤ x ∧ x < 128) : (c32 x).toInt8.toInt32 = c32 x := by
  apply Int32.toInt_inj.mp
  rw [Int8.toInt_toInt32, Int32.toInt_toInt8, c32_toInt, wI_id (by omega) (by omega)]
  show Int.bmod x 256 = x
  rw [Int.bmod_def]
  split <;> omega
theorem w_i2b (C : MC g p s m args meth cd own cc nL ret) {x : Int} (hx : 0 ≤ x ∧ x < 128) (hd : decode cc pc = .ok (.i2b, 1)) (kk : WW g p l e s m args below meth cd nL lv mc ms Q (pc + 1) ls (vi x :: st) σ k) : WW g p l e s m args below meth cd nL lv mc ms Q pc ls (vi x :: st) σ k := fun H locs la h1 h2 h3 h4 h5 =>
  lv_i2b C.hx C.hb hd (c32_i2b hx) (kk H locs la h1 h2 h3 h4 h5)
/-- a field of a String -/
theorem w_gfS (C : MC g p s m args meth cd own cc nL ret) {index : Nat} {x : Int} {n d : String} {v : AV} (hk : kd σ x = 20) (hF : ∀ H, HB g s σ H → va_OF "java/lang/String" n d (cv g v) (ad g x) (AF g) s H) (hL : Cond.fieldLink own index "java/lang/String" n d ∈ TBL) (hd : decode cc pc = .ok (.getfield index, 3)) (kk : WW g p l e s m args below meth cd nL lv mc ms Q (pc + 3) ls (v :: st) σ k) : WW g p l e s m args below meth cd nL lv mc ms Q pc ls (vr x :: st) σ k := fun H locs la h1 h2 h3 h4 h5 => by
  have kk1 := kk H locs la h1 h2 h3 h4 h5
  have hr0 := (h1.2.1.2.1 x (by omega)).1
  obtain ⟨cf, k0, fi, f, cell, q1, q2, q3, q4, q5, q6⟩ := hF H h1
  show W p l e (rmOf lv mc ms) s m args below meth cd H locs k.1 k.2 Q (F0 m pc la (va_rf (rv g x) :: st.map (cv g)))
  rw [rv_ne hr0]
  exact W.getf C.hx C.hb C.hown (C.hts _ hL) q1 q2 q3 q4 (v := cv g v) q5 rfl rfl hd kk1
theorem w_gfV (C : MC g p s m args meth cd own cc nL ret) {index : Nat} {x : Int} (hk : kd σ x = 20) (hL : Cond.fieldLink own index "java/lang/String" "value" "[B" ∈ TBL) (hd : decode cc pc = .ok (.getfield index, 3)) (kk : WW g p l e s m args below meth cd nL lv mc ms Q (pc + 3) ls (vr (fR σ 2000 x) :: st) σ k) : WW g p l e s m args below meth cd nL lv mc ms Q pc ls (vr x :: st) σ k :=
  w_gfS C hk (fun H h1 => (h1.2.2.2.1 x hk).2.2) hL hd kk
theorem w_gfC (C : MC g p s m args meth cd own cc nL ret) {index : Nat} {x : Int} (hk : kd σ x = 20) (hL : Cond.fieldLink own index "java/lang/String" "coder" "B" ∈ TBL) (hd : decode cc pc = .ok (.getfield index, 3)) (kk : WW g p l e s m args below meth cd nL lv mc ms Q (pc + 3) ls (vi (fI σ 2001 x) :: st) σ k) : WW g p l e s m args below meth cd nL lv mc ms Q pc ls (vr x :: st) σ k :=
  w_gfS C hk (fun H h1 => (h1.2.2.2.1 x hk).2.1) hL hd kk
/-- one place beside itself -/
theorem w_acmpE (C : MC g p s m args meth cd own cc nL ret) {c : ACond} {x off : Int} {tgt : Nat} (ht : (pc : Int) + off = (tgt : Int)) (hd : decode cc pc = .ok (.if_acmp c off, 3)) (kt : c = .eq → WW g p l e s m args below meth cd nL lv mc ms Q tgt ls st σ k) (kf : c = .ne → WW g p l e s m args below meth cd nL lv mc ms Q (pc + 3) ls st σ k) : WW g p l e s m args below meth cd nL lv mc ms Q pc ls (vr x :: vr x :: st) σ k := fun H locs la h1 h2 h3 h4 h5 => by
  cases c
  · exact lv_acmp_eq C.hx C.hb hd ht (fun h => kt rfl H locs la h1 h2 h3 h4 h5) (fun h => absurd rfl h)
  · exact lv_acmp_ne C.hx C.hb hd ht (fun h => absurd rfl h) (fun h => kf rfl H locs la h1 h2 h3 h4 h5)
theorem w_ldcM (C : MC g p s m args meth cd own cc nL ret) {index : Nat} (hL : Cond.classLink own index "[Ljava/lang/Object;" ∈ TBL) (hd : decode cc pc = .ok (.ldc index, 2)) (kk : WW g p l e s m args below meth cd nL lv mc ms Q (pc + 2) ls (vr (-16) :: st) σ k) : WW g p l e s m args below meth cd nL lv mc ms Q pc ls st σ k := fun H locs la h1 h2 h3 h4 h5 => by
  have kk1 := kk H locs la h1 h2 h3 h4 h5
  have kk1 : W p l e (rmOf lv mc ms) s m args below meth cd H locs k.1 k.2 Q (F0 m (pc + 2) la (va_rf (rv g (-16)) :: st.map (cv g))) := kk1
  rw [rv_ne (by decide), ad_neg g (by decide)] at kk1
  exact va_ldcM C.hx C.hb C.hown (C.hts _ hL) C.hSx.2 hd kk1
theorem nm_Objs : "[" ++ (FieldType.object "java/lang/Object").toString = "[Ljava/lang/Object;" := by decide +kernel
/-- a row of objects: one of ours, or the lists' empty one that lay there before -/
theorem objs_cell {H : Heap} (hK : va_K (gD g) CLS (ATY g) s) (h1 : HB g s σ H) {r : Int} (hk : kd σ r = 105) : ∃ cell : Cell, H[ad g r]? = some cell ∧ s.isArrayOf cell (.object "java/lang/Object") ∧ cell.vm ≠ .unknown ∧ cell.vm.isStatics = false ∧ (ln σ r).toNat ≤ cell.slots.size ∧ (∀ j : Nat, j < (ln σ r).toNat → cell.slots[j]? = some (va_rf (rv g (aR σ r (j : Int))))) ∧ s.vm.findClass "[Ljava/lang/Object;" = some cell.cls := by
  by_cases hr : 0 < r
  · have hat := h1.1.arr hk (by decide) hr
    rw [aval_ref (by decide)] at hat
    obtain ⟨kA, comp, a1, a2, a3, a4⟩ := (hK.2 4 _ rfl).2
    rw [nm_Objs] at a4
    exact ⟨_, hat, (hK.2 4 _ rfl).1 _ _, (fun h => by cases h), rfl, Nat.le_of_eq (arrV_size _ _ _).symm, fun j hj => arrV_read _ _ hj, a4⟩
  · have hw := h1.2.1.2.1 r (by omega)
    have hr0 : r < 0 := by have := hw.1; omega
    have hz := hw.2.2.2.2 hr0
    have hl0 : ln σ r = 0 := by omega
    obtain ⟨⟨c1, o1, o2, o3, -⟩, ⟨c2, t1, t2, t3, t4, t5, t6, -⟩⟩ := h1.2.2.2.2.1.2.1 r hr0 hk
    have ec : c1 = c2 := Option.some.inj (o1.symm.trans t1)
    subst ec
    exact ⟨c1, o1, t2, t3, o2, t4, fun j hj => by omega, o3⟩
theorem recv_objs {H : Heap} (hK : va_K (gD g) CLS (ATY g) s) (h1 : HB g s σ H) {r : Int} (hk : kd σ r = 105) : ∃ cell : Cell, H[ad g r]? = some cell ∧ cell.vm.isStatics = false ∧ s.vm.findClass "[Ljava/lang/Object;" = some cell.cls := by
  obtain ⟨c, a1, -, -, a4, -, -, a7⟩ := objs_cell hK h1 hk
  exact ⟨c, a1, a4, a7⟩
theorem w_getC (C : MC g p s m args meth cd own cc nL ret) {index : Nat} {r : Int} (hk : kd σ r = 105) (hL : Cond.methodLink own index ⟨"java/lang/Object", "getClass", "()Ljava/lang/Class;"⟩ ∈ TBL) (hdecl : Cond.declares ⟨"java/lang/Object", "getClass", "()Ljava/lang/Class;"⟩ ∈ XW)
    (hsel : Cond.selects "[Ljava/lang/Object;" ⟨"java/lang/Object", "getClass", "()Ljava/lang/Class;"⟩ ⟨"java/lang/Object", "getClass", "()Ljava/lang/Class;"⟩ ∈ TBL) (hinst : Cond.instanceMethod ⟨"java/lang/Object", "getClass", "()Ljava/lang/Class;"⟩ ∈ TBL) (hnat : Cond.native ⟨"java/lang/Object", "getClass", "()Ljava/lang/Class;"⟩ ∈ TBL) (hcat : catS st ≤ 8) (hlv : 0 < lv) (hd : decode cc pc = .ok (.invokevirtual index, 3))
    (kk : WW g p l e s m args below meth cd nL lv mc ms Q (pc + 3) ls (vr (-16) :: st) σ k) : WW g p l e s m args below meth cd nL lv mc ms Q pc ls (vr r :: st) σ k := fun H locs la h1 h2 h3 h4 h5 => by
  have kk1 := kk H locs la h1 h2 h3 h4 h5
  have hr0 := (h1.2.1.2.1 r (by omega)).1
  have kk1 : W p l e (rmOf lv mc ms) s m args below meth cd H locs k.1 k.2 Q (F0 m (pc + 3) la (va_rf (rv g (-16)) :: st.map (cv g))) := kk1
  rw [rv_ne (by decide), ad_neg g (by decide)] at kk1
  show W p l e (rmOf lv mc ms) s m args below meth cd H locs k.1 k.2 Q (F0 m pc la (va_rf (rv g r) :: st.map (cv g)))
  rw [rv_ne hr0]
  exact va_getC C.hx C.hb (h3.1.trans C.hml.symm).symm C.hown (C.hts _ hL) (C.hE _ hdecl) (C.hts _ hsel) (C.hts _ hinst) (C.hts _ hnat) C.hSx.2 (recv_objs C.hK h1 hk) (by show 1 ≤ lv; omega) (by rw [catS_eq]; show catS st + 14 ≤ 128 * lv; omega) hd kk1
/-- the first n of r0 written over the first n of r1 -/
def cpR (σ : Hp) (r0 r1 n : Int) : Hp := (nx σ, kd σ, ln σ, fI σ, fL σ, fR σ, aI σ, aL σ, fun b j => if b = r1 ∧ 0 ≤ j ∧ j < n then aR σ r0 j else aR σ b j)
theorem nx_cpR (σ : Hp) (r0 r1 n : Int) : nx (cpR σ r0 r1 n) = nx σ := Eq.trans rfl rfl
theorem kd_cpR (σ : Hp) (r0 r1 n : Int) : kd (cpR σ r0 r1 n) = kd σ := Eq.trans rfl rfl
theorem ln_cpR (σ : Hp) (r0 r1 n : Int) : ln (cpR σ r0 r1 n) = ln σ := Eq.trans rfl rfl
theorem fI_cpR (σ : Hp) (r0 r1 n : Int) : fI (cpR σ r0 r1 n) = fI σ := Eq.trans rfl rfl
theorem fL_cpR (σ : Hp) (r0 r1 n : Int) : fL (cpR σ r0 r1 n) = fL σ := Eq.trans rfl rfl
theorem fR_cpR (σ : Hp) (r0 r1 n : Int) : fR (cpR σ r0 r1 n) = fR σ := Eq.trans rfl rfl
theorem aI_cpR (σ : Hp) (r0 r1 n : Int) : aI (cpR σ r0 r1 n) = aI σ := Eq.trans rfl rfl
theorem aL_cpR (σ : Hp) (r0 r1 n : Int) : aL (cpR σ r0 r1 n) = aL σ := Eq.trans rfl rfl
theorem aR_cpR (σ : Hp) (r0 r1 n b j : Int) : aR (cpR σ r0 r1 n) b j = if b = r1 ∧ 0 ≤ j ∧ j < n then aR σ r0 j else aR σ b j := Eq.trans rfl rfl
theorem cpR_0 (σ : Hp) (r0 r1 : Int) : cpR σ r0 r1 0 = σ := by
  have e : (fun b j => if b = r1 ∧ 0 ≤ j ∧ j < 0 then aR σ r0 j else aR σ b j) = aR σ := by
    funext b j
    exact if_neg (by omega)
  unfold cpR
  rw [e]
  rfl
theorem w_copy (C : MC g p s m args meth cd own cc nL ret) {index : Nat} {r0 r1 n : Int} {ci : Nat} (hL : Cond.methodLink own index arraycopyName ∈ TBL) (hnat : Cond.native arraycopyName ∈ TBL) (hstat : Cond.static arraycopyName ∈ TBL) (hini : Cond.initialized "java/lang/System" ∈ TBL)
    (hk0 : kd σ r0 = 105) (hk1 : kd σ r1 = 105) (hp : 0 < r1) (hn : 0 ≤ n ∧ n ≤ ln σ r0 ∧ n ≤ ln σ r1) (hci : ci < 14) (hel : ∀ j, 0 ≤ j → j < n → aR σ r0 j = 0 ∨ kd σ (aR σ r0 j) = ci + 1) (hca : Cond.castable (cR ci) "java/lang/Object" ∈ XW) (hcat : catS st ≤ 8) (hlv : 0 < lv) (hd : decode cc pc = .ok (.invokestatic index, 3))
    (kk : WW g p l e s m args below meth cd nL lv mc ms Q (pc + 3) ls st (cpR σ r0 r1 n) k) : WW g p l e s m args below meth cd nL lv mc ms Q pc ls (vi n :: vi 0 :: vr r1 :: vi 0 :: vr r0 :: st) σ k := fun H locs la h1 h2 h3 h4 h5 => by
  have hr0 := (h1.2.1.2.1 r0 (by omega)).1
  have hrn := (h1.2.1.2.1 r1 (by omega)).2.1
  have hlen0 := h1.2.1.2.2.1 r0
  have hlen1 := h1.2.1.2.2.1 r1
  show W p l e (rmOf lv mc ms) s m args below meth cd H locs k.1 k.2 Q (F0 m pc la (.int (c32 n) :: .int (c32 0) :: va_rf (rv g r1) :: .int (c32 0) :: va_rf (rv g r0) :: st.map (cv g)))
  rw [rv_ne (r := r1) (by omega), rv_ne hr0]
  obtain ⟨cs, a0, is0, v0, -, n0, rd0, -⟩ := objs_cell C.hK h1 hk0
  have a1 := h1.1.arr hk1 (by decide) hp
  rw [aval_ref (by decide)] at a1
  have hcl : (c32 n).toNatClampNeg = n.toNat := c32_clamp hn.1 (by omega)
  have hneg : ¬ c32 n < 0 := by rw [z_lt, wI_id (by omega) (by omega)]; show ¬ n < wI 0; unfold wI; omega
  have hneg0 : ¬ c32 0 < 0 := by decide
  have hcl0 : (c32 0).toNatClampNeg = 0 := by decide
  have hti : (c32 n).toInt = n := by rw [c32_toInt, wI_id (by omega) (by omega)]
  have hti0 : (c32 0).toInt = 0 := by decide
  intro T hT X
  obtain ⟨so0, k0, hq0, cm0, hkk0⟩ := is0
  obtain ⟨-, k1, hq1, cm1, hkk1⟩ := (C.hK.2 4 _ rfl).1 (ln σ r1).toNat (fun j => va_rf (rv g (aR σ r1 j)))
  obtain ⟨vm', X', step⟩ := X.arraycopy C.hx C.hown (C.hts _ hL) (C.hts _ hnat) (C.hts _ hstat) (C.hts _ hini) (src := ad g r0) (dst := ad g r1) (cs := cs) (cd := arrV (gA g 105) (ln σ r1).toNat (fun j => va_rf (rv g (aR σ r1 j)))) (srcPos := c32 0) (destPos := c32 0) (n := c32 n) (by rw [hT]; exact a0) (by rw [hT]; exact a1)
    so0 (fun _ h => by cases h) v0 (fun h => by cases h) hq0 hq1 hkk0 hkk1 rfl hneg0 hneg0 hneg
    (by rw [hti, hti0]; omega)
    (by rw [hti, hti0, arrV_size]; omega)
    (fun vm₁ hal i hi => by
      rw [hcl] at hi
      have e : cs.slots.getD ((c32 0).toNatClampNeg + i) .null = va_rf (rv g (aR σ r0 i)) := by
        rw [hcl0, Nat.zero_add, Array.getD_eq_getD_getElem?, rd0 i (by omega)]
        rfl
      rw [e]
      rcases hel i (by omega) (by omega) with hz | hz
      · rw [hz, show rv g 0 = none from if_pos rfl]; exact ⟨rfl, trivial⟩
      · obtain ⟨cellV, g1, g2, g3⟩ := recv_obj C.hK h1 hci hz
        have hv0 := (h1.2.1.2.1 (aR σ r0 i) (by omega)).1
        rw [rv_ne hv0]
        obtain ⟨kA, comp, y1, y2, y3, -⟩ := (C.hK.2 4 _ rfl).2
        cases hq1.symm.trans y1
        cases hkk1.symm.trans y2
        obtain ⟨kC, hkC, -⟩ := Vm.findClass_spec g3
        obtain ⟨kE, hkE, -⟩ := Vm.findClass_spec y3
        obtain ⟨kC', hkC', -⟩ := hal.2.2 _ _ hkC
        obtain ⟨kE', hkE', -⟩ := hal.2.2 _ _ hkE
        refine ⟨rfl, cellV, (show T.heap[ad g (aR σ r0 i)]? = some cellV by rw [hT]; exact g1), (fun q h => by rw [h] at g2; cases g2), ⟨kC', hkC'⟩, ?_, ?_⟩
        · exact ⟨kE', hkE'⟩
        · show vm₁.assignable _ _ = true
          rw [hal.assignable]
          exact vb_asgC (C.hE _ hca) _ _ y3 g3)
    (g := F0 m pc la (.int (c32 n) :: .int (c32 0) :: .ref (ad g r1) :: .int (c32 0) :: .ref (ad g r0) :: st.map (cv g))) rfl (h3.1.trans C.hml.symm) (rest := st.map (cv g)) rfl (by rw [C.hb]; exact hd) (by show 1 ≤ lv; omega) (by
      have hnf : nativeFrameWords "java/lang/System" "arraycopy" 5 + 11 ≤ 60 := by decide +kernel
      rw [catS_eq]
      show 2 * 0 + catS st + _ ≤ 128 * lv
      omega)
  have e1 : copied cs (arrV (gA g 105) (ln σ r1).toNat (fun j => va_rf (rv g (aR σ r1 j)))) (c32 0) (c32 0) (c32 n) = arrV (gA g 105) (ln σ r1).toNat (fun j => va_rf (rv g (aR (cpR σ r0 r1 n) r1 j))) := by
    have := va_copiedX (fun z => va_rf z) cs (gA g 105) (n0 := (ln σ r0).toNat) (n1 := (ln σ r1).toNat) (sp := (c32 0).toNatClampNeg) (dp := (c32 0).toNatClampNeg) (n := (c32 n).toNatClampNeg) (fun j => rv g (aR σ r0 j)) (fun j => rv g (aR σ r1 j)) rd0 (by rw [hcl0, hcl]; omega)
    refine this.trans ?_
    congr 1
    funext q
    rw [hcl0, hcl]
    unfold va_cpy
    rw [aR_cpR]
    by_cases hq : q < n.toNat
    · rw [if_pos (by omega), if_pos (by omega), Nat.zero_add, Nat.sub_zero]
    · rw [if_neg (by omega), if_neg (by omega)]
  rw [e1] at X' step
  generalize hc9 : arrV (gA g 105) (ln σ r1).toNat (fun j => va_rf (rv g (aR (cpR σ r0 r1 n) r1 j))) = c9 at X' step
  have hl : ad g r1 < H.size := (Array.getElem?_eq_some_iff.mp a1).1
  have hheap : ((T.setVm vm').setCell (ad g r1) c9).heap = H.setIfInBounds (ad g r1) c9 := by rw [← hT]; rfl
  have oq : ∀ q : Nat, q ≠ ad g r1 → (H.setIfInBounds (ad g r1) c9)[q]? = H[q]? := fun q hq => by simp [Array.getElem?_setIfInBounds, Ne.symm hq]
  have hsz : (H.setIfInBounds (ad g r1) c9).size = H.size := by simp
  have hA : AF g (ad g r1) := by rw [ad_pos g hp]; exact Nat.le_add_right _ _
  have hne : ∀ q : Int, q ≠ r1 → aR (cpR σ r0 r1 n) q = aR σ q := fun q hq => by
    funext j
    exact if_neg (by omega)
  have hS2 : ∀ locs1 : List Loc, (∀ l ∈ locs1, AF g l.base) → va_S (AF g) s.heap (H.setIfInBounds (ad g r1) c9) locs1 := fun locs1 hl1 => ⟨by rw [hsz]; exact h2.1, fun q g1 g2 => by
      rw [oq q (fun e => g2 (by rw [e]; exact hA))]
      exact h2.2.1 q g1 g2, hl1⟩
  have hB2 : HB g s (cpR σ r0 r1 n) (H.setIfInBounds (ad g r1) c9) := by
    refine ⟨h1.1.put (σ' := cpR σ r0 r1 n) h1.2.1 C.hX hp rfl (fun q hq => cel_q_ne rfl rfl rfl rfl rfl rfl rfl (hne q hq)) ?_ oq, h1.2.1.q (r := r1) rfl rfl rfl rfl rfl rfl (fun q hq => ⟨rfl, rfl, hne q hq⟩) hrn, by rw [hsz]; exact h1.2.2.1, ?_⟩
    · rw [cel_arr (σ := cpR σ r0 r1 n) (κ := 105) hk1 (by omega), aval_ref (by omega)]
      show (H.setIfInBounds (ad g r1) c9)[ad g r1]? = some (vp_cell _ _)
      rw [show (H.setIfInBounds (ad g r1) c9)[ad g r1]? = some c9 by simp [Array.getElem?_setIfInBounds, hl], ← hc9]
      rfl
    · refine (h1.2.2.2.q (σ' := cpR σ r0 r1 n) (r := r1) rfl rfl rfl rfl (fun _ _ => rfl) (by omega)).kept fun q hq hA2 => oq q ?_
      intro e9
      exact hA2 (by rw [e9]; exact hA)
  obtain ⟨t, b1, b2⟩ := kk _ _ la hB2 (hS2 _ fun q hq => by
      rcases List.mem_append.mp hq with h | h
      · exact h2.2.2 q h
      · obtain ⟨z, -, hz⟩ := List.mem_map.mp h
        rw [← hz]
        exact hA) h3 h4 h5 _ hheap X'
  exact ⟨t, step t b1, b2⟩
end RW6
theorem row_VS {own : String} {index : Nat} {y : MethodName} {cc' : ByteArray} {nL' n : Nat} {ret' : Option FieldType} {lvc a b : Nat} {sp : Sp} (hc : Ct y cc' nL' ret' lvc a b sp) (hL : MLk own index y cc' nL' ret' n) (hy : y.cls = "java/lang/String") (hin : Cond.instanceMethod y ∈ TBL) (hse : Cond.selects y.cls y y ∈ TBL)
    (hrecv : ∀ av σ Q, sp av σ Q → ∃ r tl, av = vr r :: tl ∧ kd σ r = 20) : Row own (.invokevirtual index) 3 (n + 1) a b lvc sp := by
  intro g p l e s m args below meth cd nL lv mc ms Q cc ret pc ls av rest σ k Qf C hn hr hlv ha hb hd hsp hQf
  obtain ⟨r, tl, rfl, hk⟩ := hrecv _ _ _ hsp
  obtain ⟨l1, l2, l3, l4, l5⟩ := hL
  have hM := hc l g _ _ _ hsp
  refine ww_of_run (rest := rest) (aa := (Value.ref (ad g r) :: tl.map (cv g)).toArray) hQf ha hb fun H locs la h1 h2 h3 => ?_
  have hr0 := (h1.2.1.2.1 r (by omega)).1
  have eM : List.map (cv g) (vr r :: tl) = .ref (ad g r) :: tl.map (cv g) := by
    show va_rf (rv g r) :: _ = _
    rw [rv_ne hr0]
    rfl
  have hCB : CallB (rmOf lv mc ms) s args own index y cc' nL' ret' (wsOf y cc' nL' ret') (rmOf lvc a b) a b n := callB_of (Ts := TBL) n C.hts (wsOf_good l2) rfl rfl rfl (C.hts _ l3) (C.hts _ l1) l4 ⟨by show lvc + 1 ≤ lv; omega, by show 8 + (nL' + 11) + 128 * lvc ≤ 128 * lv; omega⟩
  have hcell : ∃ cell : Cell, H[ad g r]? = some cell ∧ cell.vm.isStatics = false ∧ s.vm.findClass y.cls = some cell.cls := by
    obtain ⟨cell, c1, c2, c3, -⟩ := (h1.2.2.2.1 r hk).1
    rw [hy]
    exact ⟨cell, c1, c2, c3⟩
  have hrun := va_runV (l := l) (e := e) (below := below) (meth := meth) (H := H) (locs := locs) (cells := k.1) (slots := k.2) (As := tl.map (cv g)) (b := ad g r) (C := y.cls) (rest := rest.map (cv g)) (g := F0 m pc la (List.map (cv g) ((vr r :: tl).reverse ++ rest))) (Ts := TBL) ⟨C.hx, C.hb, C.hml, C.hown, C.hts⟩ hM ⟨hCB, C.hts _ hin, C.hts _ hse⟩ ⟨blind g _ _, hcell, fun U hU hW => ⟨by rw [eM], C.ext h1 h2 U hU hW⟩⟩ rfl (by rw [List.length_map]; have : tl.length + 1 = n + 1 := hn; omega) h3.1 (by show List.map (cv g) ((vr r :: tl).reverse ++ rest) = _; rw [List.map_append, List.map_reverse, eM]; simp) (lv_room (by rw [catS_eq]; exact hr)) hd ⟨by show k.1 + a ≤ mc; exact ha, by show k.2 + b ≤ ms; exact hb⟩
  exact hrun
/-! rows of their own -/
def spGsR (f : Nat) : Sp := fun av σ Q => av = [] ∧ Q (some (vr (fR σ f 0))) σ
def spGsI (f : Nat) : Sp := fun av σ Q => av = [] ∧ Q (some (vi (fI σ f 0))) σ
theorem us_GsR (f : Nat) (σ : Hp) (Q : Option AV → Hp → Prop) : spGsR f [] σ Q = Q (some (vr (fR σ f 0))) σ := propext ⟨fun h => h.2, fun h => ⟨rfl, h⟩⟩
theorem us_GsI (f : Nat) (σ : Hp) (Q : Option AV → Hp → Prop) : spGsI f [] σ Q = Q (some (vi (fI σ f 0))) σ := propext ⟨fun h => h.2, fun h => ⟨rfl, h⟩⟩
theorem row_gsE {own : String} {ix : Nat} (hL : Cond.fieldLink own ix "java/util/ArrayList" "DEFAULTCAPACITY_EMPTY_ELEMENTDATA" "[Ljava/lang/Object;" ∈ TBL) : Row own (.getstatic ix) 3 0 0 0 0 (spGsR 3000) := by
  intro g p l e s m args below meth cd nL lv mc ms Q cc ret pc ls av rest σ k Qf C hn hr hlv ha hb hd hsp hQf
  obtain ⟨rfl, hq⟩ := hsp
  exact w_gets C (v := vr (fR σ 3000 0)) (fun H h1 _ => h1.2.2.2.2.2.1) hL hd (hQf _ _ hq)
theorem row_gsC {own : String} {ix : Nat} (hL : Cond.fieldLink own ix "java/lang/String" "COMPACT_STRINGS" "Z" ∈ TBL) : Row own (.getstatic ix) 3 0 0 0 0 (spGsI 3001) := by
  intro g p l e s m args below meth cd nL lv mc ms Q cc ret pc ls av rest σ k Qf C hn hr hlv ha hb hd hsp hQf
  obtain ⟨rfl, hq⟩ := hsp
  exact w_gets C (v := vi (fI σ 3001 0)) (fun H h1 _ => h1.2.2.2.2.2.2.1) hL hd (hQf _ _ hq)
theorem row_gsF {own : String} {ix : Nat} (hL : Cond.fieldLink own ix "jdk/internal/util/Preconditions" "SIOOBE_FORMATTER" "Ljava/util/function/BiFunction;" ∈ TBL) : Row own (.getstatic ix) 3 0 0 0 0 (spGsR 3002) := by
  intro g p l e s m args below meth cd nL lv mc ms Q cc ret pc ls av rest σ k Qf C hn hr hlv ha hb hd hsp hQf
  obtain ⟨rfl, hq⟩ := hsp
  exact w_gets C (v := vr (fR σ 3002 0)) (fun H h1 _ => h1.2.2.2.2.2.2.2) hL hd (hQf _ _ hq)
def spNewq (κ : Nat) (mx : Int) : Sp := fun av σ Q => match av with
  | [.inl n] => (0 ≤ n ∧ n ≤ mx) ∧ Q (some (vr (nx σ))) (mk σ κ n)
  | _ => False
theorem us_Newq (κ : Nat) (mx n : Int) (σ : Hp) (Q : Option AV → Hp → Prop) : spNewq κ mx [vi n] σ Q = ((0 ≤ n ∧ n ≤ mx) ∧ Q (some (vr (nx σ))) (mk σ κ n)) := rfl
theorem row_newq {own : String} {ix κ b : Nat} {Cn : String} (hκ : (κ = 105 ∧ Cn = "java/lang/Object") ∨ (κ = 106 ∧ Cn = "AlarmBoxes$Loop")) (hL : Cond.classLink own ix Cn ∈ TBL) (hA : Cond.arrayOver (.object Cn) ∈ XW) (hb9 : b ≤ 65536) : Row own (.anewarray ix) 3 1 1 b 0 (spNewq κ b) := by
  intro g p l e s m args below meth cd nL lv mc ms Q cc ret pc ls av rest σ k Qf C hn hr hlv ha hb hd hsp hQf
  rcases av with _ | ⟨v, _ | ⟨w, tl⟩⟩
  · exact hsp.elim
  · rcases v with x | x | x
    · obtain ⟨hx, hq⟩ := hsp
      exact w_newq C hκ hL hA (by omega) ha (by omega) hd (WW.widen (k.1 + 1, k.2 + b) (Nat.le_refl _) (by show k.2 + x.toNat ≤ k.2 + b; omega) ha hb (hQf _ _ hq))
    · exact hsp.elim
    · exact hsp.elim
  · rcases v with x | x | x <;> exact hsp.elim
def spMir : Sp := fun av σ Q => av = [] ∧ Q (some (vr (-16))) σ
theorem us_Mir (σ : Hp) (Q : Option AV → Hp → Prop) : spMir [] σ Q = Q (some (vr (-16))) σ := propext ⟨fun h => h.2, fun h => ⟨rfl, h⟩⟩
theorem row_ldcM {own : String} {ix : Nat} (hL : Cond.classLink own ix "[Ljava/lang/Object;" ∈ TBL) : Row own (.ldc ix) 2 0 0 0 0 spMir := by
  intro g p l e s m args below meth cd nL lv mc ms Q cc ret pc ls av rest σ k Qf C hn hr hlv ha hb hd hsp hQf
  obtain ⟨rfl, hq⟩ := hsp
  exact w_ldcM C hL hd (hQf _ _ hq)
def spGetC : Sp := fun av σ Q => match av with
  | [.inr (.inr r)] => kd σ r = 105 ∧ Q (some (vr (-16))) σ
  | _ => False
theorem us_GetC (r : Int) (σ : Hp) (Q : Option AV → Hp → Prop) : spGetC [vr r] σ Q = (kd σ r = 105 ∧ Q (some (vr (-16))) σ) := rfl
theorem row_getC {own : String} {ix : Nat} (hL : Cond.methodLink own ix ⟨"java/lang/Object", "getClass", "()Ljava/lang/Class;"⟩ ∈ TBL) (hdecl : Cond.declares ⟨"java/lang/Object", "getClass", "()Ljava/lang/Class;"⟩ ∈ XW)
    (hsel : Cond.selects "[Ljava/lang/Object;" ⟨"java/lang/Object", "getClass", "()Ljava/lang/Class;"⟩ ⟨"java/lang/Object", "getClass", "()Ljava/lang/Class;"⟩ ∈ TBL) (hinst : Cond.instanceMethod ⟨"java/lang/Object", "getClass", "()Ljava/lang/Class;"⟩ ∈ TBL) (hnat : Cond.native ⟨"java/lang/Object", "getClass", "()Ljava/lang/Class;"⟩ ∈ TBL) : Row own (.invokevirtual ix) 3 1 0 0 0 spGetC := by
  intro g p l e s m args below meth cd nL lv mc ms Q cc ret pc ls av rest σ k Qf C hn hr hlv ha hb hd hsp hQf
  rcases av with _ | ⟨v, _ | ⟨w, tl⟩⟩
  · exact hsp.elim
  · rcases v with x | x | x
    · exact hsp.elim
    · exact hsp.elim
    · exact w_getC C hsp.1 hL hdecl hsel hinst hnat hr hlv hd (hQf _ _ hsp.2)
  · rcases v with x | x | x <;> exact hsp.elim
theorem cast_ok {ci : Nat} (h : ci = 0 ∨ ci = 2 ∨ ci = 5) : Cond.castable (cR ci) "java/lang/Object" ∈ XW := by
  rcases h with rfl | rfl | rfl
  · exact XW_in 2118 (by decide +kernel) rfl
  · exact XW_in 2116 (by decide +kernel) rfl
  · exact XW_in 2117 (by decide +kernel) rfl
def spCpy : Sp := fun av σ Q => match av with
  | [.inr (.inr r0), .inl a, .inr (.inr r1), .inl b, .inl n] => (a = 0 ∧ b = 0) ∧ kd σ r0 = 105 ∧ kd σ r1 = 105 ∧ 0 < r1 ∧ (0 ≤ n ∧ n ≤ ln σ r0 ∧ n ≤ ln σ r1) ∧ (∃ ci, (ci = 0 ∨ ci = 2 ∨ ci = 5) ∧ ∀ j, 0 ≤ j → j < n → aR σ r0 j = 0 ∨ kd σ (aR σ r0 j) = ci + 1) ∧ Q none (cpR σ r0 r1 n)
  | _ => False
theorem us_Cpy (r0 a r1 b n : Int) (σ : Hp) (Q : Option AV → Hp → Prop) : spCpy [vr r0, vi a, vr r1, vi b, vi n] σ Q = ((a = 0 ∧ b = 0) ∧ kd σ r0 = 105 ∧ kd σ r1 = 105 ∧ 0 < r1 ∧ (0 ≤ n ∧ n ≤ ln σ r0 ∧ n ≤ ln σ r1) ∧ (∃ ci, (ci = 0 ∨ ci = 2 ∨ ci = 5) ∧ ∀ j, 0 ≤ j → j < n → aR σ r0 j = 0 ∨ kd σ (aR σ r0 j) = ci + 1) ∧ Q none (cpR σ r0 r1 n)) := rfl
theorem row_cpy {own : String} {ix : Nat} (hL : Cond.methodLink own ix arraycopyName ∈ TBL) (hnat : Cond.native arraycopyName ∈ TBL) (hstat : Cond.static arraycopyName ∈ TBL) (hini : Cond.initialized "java/lang/System" ∈ TBL) : Row own (.invokestatic ix) 3 5 0 0 0 spCpy := by
  intro g p l e s m args below meth cd nL lv mc ms Q cc ret pc ls av rest σ k Qf C hn hr hlv ha hb hd hsp hQf
  rcases av with _ | ⟨v0 | v0 | v0, _ | ⟨v1 | v1 | v1, _ | ⟨v2 | v2 | v2, _ | ⟨v3 | v3 | v3, _ | ⟨v4 | v4 | v4, _ | ⟨v5, tl⟩⟩⟩⟩⟩⟩ <;> try exact hsp.elim
  obtain ⟨⟨rfl, rfl⟩, a1, a2, a3, a4, ⟨ci, a5, a6⟩, hq⟩ := hsp
  exact w_copy C hL hnat hstat hini a1 a2 a3 a4 (by omega) a6 (cast_ok a5) hr hlv hd (hQf _ _ hq)
def spAst (κ : Nat) : Sp := fun av σ Q => match av with
  | [.inr (.inr r), .inl i, .inr (.inr v)] => kd σ r = κ ∧ 0 < r ∧ ((κ = 105 ∧ (kd σ v = 1 ∨ kd σ v = 3 ∨ kd σ v = 6)) ∨ (κ = 106 ∧ kd σ v = 10)) ∧ (0 ≤ i ∧ i < ln σ r) ∧ Q none (qR σ r i v)
  | _ => False
theorem us_Ast (κ : Nat) (r i v : Int) (σ : Hp) (Q : Option AV → Hp → Prop) : spAst κ [vr r, vi i, vr v] σ Q = (kd σ r = κ ∧ 0 < r ∧ ((κ = 105 ∧ (kd σ v = 1 ∨ kd σ v = 3 ∨ kd σ v = 6)) ∨ (κ = 106 ∧ kd σ v = 10)) ∧ (0 ≤ i ∧ i < ln σ r) ∧ Q none (qR σ r i v)) := rfl
theorem row_ast {own : String} {κ : Nat} : Row own .aastore 1 3 0 0 0 (spAst κ) := by
  intro g p l e s m args below meth cd nL lv mc ms Q cc ret pc ls av rest σ k Qf C hn hr hlv ha hb hd hsp hQf
  rcases av with _ | ⟨v0 | v0 | v0, _ | ⟨v1 | v1 | v1, _ | ⟨v2 | v2 | v2, _ | ⟨v3, tl⟩⟩⟩⟩ <;> try exact hsp.elim
  obtain ⟨a1, a2, a3, a4, hq⟩ := hsp
  have kk := hQf _ _ hq
  rcases a3 with ⟨hκ, a3⟩ | ⟨hκ, a3⟩
  · rcases a3 with a3 | a3 | a3
    · exact w_aast C (E := "java/lang/Object") (ci := 0) (Or.inl ⟨hκ, rfl⟩) a1 a2 (by decide) a3 (Or.inr (cast_ok (Or.inl rfl))) a4 hd kk
    · exact w_aast C (E := "java/lang/Object") (ci := 2) (Or.inl ⟨hκ, rfl⟩) a1 a2 (by decide) a3 (Or.inr (cast_ok (Or.inr (Or.inl rfl)))) a4 hd kk
    · exact w_aast C (E := "java/lang/Object") (ci := 5) (Or.inl ⟨hκ, rfl⟩) a1 a2 (by decide) a3 (Or.inr (cast_ok (Or.inr (Or.inr rfl)))) a4 hd kk
  · exact w_aast C (E := "AlarmBoxes$Loop") (ci := 9) (Or.inr ⟨hκ, rfl⟩) a1 a2 (by decide) a3 (Or.inl rfl) a4 hd kk
/-! the same, for the machine at a place -/
theorem go_i2b {M : Md} {QQ : Option AV → Hp → Prop} {pc : Nat} {ls : List (Option AV)} {st : List AV} {σ : Hp} {k : Nat × Nat} {x : Int} (hx : 0 ≤ x ∧ x < 128) (hd : decode M.2.1 pc = .ok (.i2b, 1)) (h : Go M QQ (pc + 1) ls (vi x :: st) σ k) : Go M QQ pc ls (vi x :: st) σ k := by
  rw [Go_eq] at h ⊢
  exact fun g p l e s m args below meth cd C hn => w_i2b C hx hd (h g p l e s m args below meth cd C hn)
theorem go_gfV {M : Md} {QQ : Option AV → Hp → Prop} {pc index : Nat} {ls : List (Option AV)} {st : List AV} {σ : Hp} {k : Nat × Nat} {x : Int} (hk : kd σ x = 20) (hL : Cond.fieldLink M.1.cls index "java/lang/String" "value" "[B" ∈ TBL) (hd : decode M.2.1 pc = .ok (.getfield index, 3)) (h : Go M QQ (pc + 3) ls (vr (fR σ 2000 x) :: st) σ k) : Go M QQ pc ls (vr x :: st) σ k := by
  rw [Go_eq] at h ⊢
  exact fun g p l e s m args below meth cd C hn => w_gfV C hk hL hd (h g p l e s m args below meth cd C hn)
theorem go_gfC {M : Md} {QQ : Option AV → Hp → Prop} {pc index : Nat} {ls : List (Option AV)} {st : List AV} {σ : Hp} {k : Nat × Nat} {x : Int} (hk : kd σ x = 20) (hL : Cond.fieldLink M.1.cls index "java/lang/String" "coder" "B" ∈ TBL) (hd : decode M.2.1 pc = .ok (.getfield index, 3)) (h : Go M QQ (pc + 3) ls (vi (fI σ 2001 x) :: st) σ k) : Go M QQ pc ls (vr x :: st) σ k := by
  rw [Go_eq] at h ⊢
  exact fun g p l e s m args below meth cd C hn => w_gfC C hk hL hd (h g p l e s m args below meth cd C hn)
theorem go_acmpEq {M : Md} {QQ : Option AV → Hp → Prop} {pc tgt : Nat} {ls : List (Option AV)} {st : List AV} {σ : Hp} {k : Nat × Nat} {x off : Int} (ht : (pc : Int) + off = (tgt : Int)) (hd : decode M.2.1 pc = .ok (.if_acmp .eq off, 3)) (h : Go M QQ tgt ls st σ k) : Go M QQ pc ls (vr x :: vr x :: st) σ k := by
  rw [Go_eq] at h ⊢
  exact fun g p l e s m args below meth cd C hn => w_acmpE C ht hd (fun _ => h g p l e s m args below meth cd C hn) (fun h => by cases h)
theorem go_acmpNe {M : Md} {QQ : Option AV → Hp → Prop} {pc tgt : Nat} {ls : List (Option AV)} {st : List AV} {σ : Hp} {k : Nat × Nat} {x off : Int} (ht : (pc : Int) + off = (tgt : Int)) (hd : decode M.2.1 pc = .ok (.if_acmp .ne off, 3)) (h : Go M QQ (pc + 3) ls st σ k) : Go M QQ pc ls (vr x :: vr x :: st) σ k := by
  rw [Go_eq] at h ⊢
  exact fun g p l e s m args below meth cd C hn => w_acmpE C ht hd (fun h => by cases h) (fun _ => h g p l e s m args below meth cd C hn)

/-! fields -/
theorem cel_obj {g : GG} {σ : Hp} {r : Int} {κ : Nat} (h : kd σ r = κ) (h2 : κ ≤ 14) : cel g σ r = .inr (κ - 1, flds g σ (κ - 1) r) := by
  unfold cel
  rw [h, if_neg (by omega)]
theorem cel_arr {g : GG} {σ : Hp} {r : Int} {κ : Nat} (h : kd σ r = κ) (h2 : 100 ≤ κ) : cel g σ r = .inl (gA g κ, aval g σ κ r) := by
  unfold cel
  rw [h, if_pos h2]
theorem rv_ne {g : GG} {r : Int} (h : r ≠ 0) : rv g r = some (ad g r) := if_neg h
theorem Wf.pos {σ : Hp} (w : Wf σ) {r : Int} {κ : Nat} (h : kd σ r = κ) (h1 : 1 ≤ κ) (h2 : κ ≤ 14 ∨ (101 ≤ κ ∧ κ ≤ 104) ∨ κ = 106 ∨ κ = 107) : 0 < r ∧ r < nx σ := by
  obtain ⟨a, b, c, d, f⟩ := w.2.1 r (by omega)
  refine ⟨?_, b⟩
  by_cases h0 : 0 < r
  · exact h0
  · have := f (by omega)
    omega
theorem Wf.posA {σ : Hp} (w : Wf σ) {r : Int} (h : kd σ r = 105) (h1 : 0 < ln σ r) : 0 < r := by
  obtain ⟨a, b, c, d, f⟩ := w.2.1 r (by omega)
  by_cases h0 : 0 < r
  · exact h0
  · have := f (by omega)
    omega
def tcd (t : FieldType) : Nat := match t with
  | .long => 1
  | .object _ => 2
  | .array _ => 2
  | _ => 0
/-- a field's value -/
def gv (σ : Hp) (tc f : Nat) (r : Int) : AV := match tc with
  | 0 => vi (fI σ f r)
  | 1 => vl (fL σ f r)
  | _ => vr (fR σ f r)
theorem fval_gv (g : GG) (σ : Hp) (t : FieldType) (f : Nat) (r : Int) : fval g σ t f r = cv g (gv σ (tcd t) f r) := by
  cases t <;> rfl
section RW2
variable {g : GG} {p : Program} {l : Launch} {e : Env} {s : State} {m : MethodId} {args : Array Value} {below : List Frame} {meth : Method} {cd : Code} {nL lv mc ms : Nat} {Q : State → Prop}
variable {own : String} {cc : ByteArray} {ret : Option FieldType} {pc : Nat} {ls : List (Option AV)} {st : List AV} {σ : Hp} {k : Nat × Nat}
theorem MC.hx (C : MC g p s m args meth cd own cc nL ret) : p.tables.exec = Jvm.exec := C.1
theorem MC.hb (C : MC g p s m args meth cd own cc nL ret) : cd.code = cc := C.2.1
theorem MC.hml (C : MC g p s m args meth cd own cc nL ret) : cd.maxLocals = nL := C.2.2.1
theorem MC.hr (C : MC g p s m args meth cd own cc nL ret) : meth.sig.returnType = ret := C.2.2.2.1
theorem MC.hlk (C : MC g p s m args meth cd own cc nL ret) : meth.locks = false := C.2.2.2.2.1
theorem MC.hown (C : MC g p s m args meth cd own cc nL ret) : s.vm.findClass own = some m.cls := C.2.2.2.2.2.1
theorem MC.hts (C : MC g p s m args meth cd own cc nL ret) : ∀ w ∈ TBL, w.before args s = true := C.2.2.2.2.2.2.1
theorem MC.hK (C : MC g p s m args meth cd own cc nL ret) : va_K (gD g) CLS (ATY g) s := C.2.2.2.2.2.2.2.1
theorem MC.hE (C : MC g p s m args meth cd own cc nL ret) : EX s := C.2.2.2.2.2.2.2.2.1
theorem MC.hSx (C : MC g p s m args meth cd own cc nL ret) : SX g s := C.2.2.2.2.2.2.2.2.2.1
theorem MC.hB (C : MC g p s m args meth cd own cc nL ret) : gB g ≤ s.heap.size := C.2.2.2.2.2.2.2.2.2.2.1
theorem MC.hX (C : MC g p s m args meth cd own cc nL ret) : PM g := C.2.2.2.2.2.2.2.2.2.2.2
/-- a field's link: class index, field, and the words of it -/
def FLk (own : String) (index ci j : Nat) : Prop := ci < 14 ∧ j < cN ci ∧ ∃ ref : String, Cond.fieldLink own index ref (cT ci j).2.1 (cT ci j).2.2.1 ∈ TBL ∧ (ref = (cT ci j).1 ∨ Cond.sameField ref (cT ci j).1 (cT ci j).2.1 (cT ci j).2.2.1 ∈ TBL)
theorem FLk.same {index ci j : Nat} (C : MC g p s m args meth cd own cc nL ret) {ref : String} (h : ref = (cT ci j).1 ∨ Cond.sameField ref (cT ci j).1 (cT ci j).2.1 (cT ci j).2.2.1 ∈ TBL) :
    ∀ x, s.fieldFound? (cT ci j).1 (cT ci j).2.1 (cT ci j).2.2.1 = some x → s.fieldFound? ref (cT ci j).2.1 (cT ci j).2.2.1 = some x := by
  rcases h with rfl | h
  · exact fun _ h => h
  · exact fun x hx => u_same (C.hts _ h) x hx
theorem w_get (C : MC g p s m args meth cd own cc nL ret) {index ci j : Nat} (hL : FLk own index ci j) {r : Int} (hk : kd σ r = ci + 1) (hd : decode cc pc = .ok (.getfield index, 3))
    (kk : WW g p l e s m args below meth cd nL lv mc ms Q (pc + 3) ls (gv σ (tcd (cty ci j)) ((ci + 1) * 100 + j) r :: st) σ k) : WW g p l e s m args below meth cd nL lv mc ms Q pc ls (vr r :: st) σ k := fun H locs la h1 h2 h3 h4 h5 => by
  obtain ⟨hci, hj, ref, hln, hsm⟩ := hL
  have hat := h1.1 r (Or.inl ⟨by omega, by omega⟩) (h1.2.1.pos hk (by omega) (Or.inl (by omega))).1
  rw [cel_obj hk (by omega), Nat.add_sub_cancel] at hat
  have hr0 := (h1.2.1.2.1 r (by omega)).1
  have hP : va_P (gD g) CLS [(ad g r, .inr (ci, flds g σ ci r))] H := fun k9 q9 h9 => by
    have h0 : k9 < 1 := (List.getElem?_eq_some_iff.mp h9).1
    rw [show k9 = 0 by omega] at h9
    cases h9
    exact hat
  have kk1 := kk H locs la h1 h2 h3 h4 h5
  show W p l e (rmOf lv mc ms) s m args below meth cd H locs k.1 k.2 Q (F0 m pc la (va_rf (rv g r) :: st.map (cv g)))
  rw [rv_ne hr0]
  exact va_get C.hx C.hb C.hts (CLS_lay hci) C.hown C.hK hP 0 rfl (CLS_at hci) j hj (C.hts _ hln) (FLk.same (index := index) C hsm) (flds_at g σ ci r hj) hd (by rw [fval_gv]; exact kk1)
/-- a store into a field of one cell: the heap behind it, cell by cell -/
theorem zv_put {c : Code} {R : Room} {H : Heap} {locs : List Loc} {cells slots : Nat} {la : Array Slot} {rest : List Value} {D : va_G} {cl : List vw_C} {a : Nat} {tys : List (ClassId × FieldType)} (hexec : p.tables.exec = Jvm.exec) (hb : c.code = cc) {ref Cn : String} {T : u_T} {N ci index : Nat} {Ts : List Cond} (hts : ∀ w ∈ Ts, w.before args s = true) (hin : ∀ w ∈ u_ws Cn T N, w ∈ Ts) (ty0 : Nat → FieldType) (hty : ∀ k, k < N → parseFieldDescriptor (T k).2.2.1 = some (ty0 k)) (hnm : ∀ a, a < N → ∀ b, b < N → a ≠ b → (T a).2.1 ≠ (T b).2.1) (hown : s.vm.findClass own = some m.cls) (hK : va_K D cl tys s) {fs : List Value} (hat : va_at D cl (a, .inr (ci, fs)) H) (hc : cl[ci]? = some (Cn, T, N)) (k : Nat) (hk : k < N) (hlink : (Cond.fieldLink own index ref (T k).2.1 (T k).2.2.1).before args s = true) (hsame : ∀ x, s.fieldFound? (T k).1 (T k).2.1 (T k).2.2.1 = some x → s.fieldFound? ref (T k).2.1 (T k).2.2.1 = some x) (hfin : (T k).2.2.2 = false ∨ ((T k).2.2.2 = true ∧ meth.name = "<init>" ∧ (T k).1 = own)) {ty : FieldType} {v : Value} (hd : parseFieldDescriptor (T k).2.2.1 = some ty) (hn : narrow ty v = v) (hfit : fits ty v = true) (hl : k < fs.length)
    (hdg : decode cc pc = .ok (.putfield index, 3)) (kk : ∀ (H1 : Heap) (z : Nat), va_at D cl (a, .inr (ci, fs.set k v)) H1 → H1.size = H.size → (∀ q : Nat, q ≠ a → H1[q]? = H[q]?) → W p l e R s m args below meth c H1 (locs ++ [⟨a, z⟩]) cells slots Q (F0 m (pc + 3) la rest)) : W p l e R s m args below meth c H locs cells slots Q (F0 m pc la (v :: .ref a :: rest)) := by
  have hap := va_apart (own := own) hts hin ty0 hty hnm hK hc
  obtain ⟨r, h1, cell, q1, q2, q3, q4⟩ := hat
  have hr : r = (Cn, T, N) := Option.some.inj (h1.symm.trans hc)
  subst hr
  obtain ⟨hS, hfc, kC, hkC, hkind⟩ := hK.1 ci _ hc
  obtain ⟨cf, kf, fi, f, hi, hsl⟩ := hS k hk
  have hlay := hts _ (hin _ (u_in_lay hk))
  unfold u_lay at hlay
  have hst := (u_facts hfc hkC (u_lays hts hin hk) hi).1
  rcases hfin with hfin | ⟨hfin, hin2, hdecl⟩
  · rw [if_neg (by rw [hfin]; decide)] at hlay
    have h6 := u_store hfc hkC hkind hlay hi hd hn hfit
    refine W.putK hexec hb (f := f) ⟨hown, hlink, ⟨_, _, _, hsame _ hi⟩, hst⟩ (by rw [q2]; exact h6) q1 q3 (by rw [hsl]; exact k2_hasslot (q4 k hk)) rfl rfl hdg fun H' e1 e2 e3 => ?_
    rw [hsl] at e1 ⊢
    exact kk H' _ ⟨_, hc, t_OB.to (V := updV (vp_V fs) k v) ⟨_, e1, q2, q3, t_set q4 hap hk v⟩ (fun j _ => vp_updV_set hl v j)⟩ e2 e3
  · rw [if_pos hfin] at hlay
    have hcf : m.cls = cf := by
      obtain ⟨_, _, c', _, _, _, -, -, hf', -, -, -, hown2, -⟩ := Cond.laysFinal_spec hlay
      have e1 : c' = cf := by have := hi.symm.trans hf'; simp at this; exact this.1.symm
      rw [hdecl] at hown2
      rw [← e1]; exact Option.some.inj (hown.symm.trans hown2)
    have h6 := u_fits hfc hkC hkind (Or.inr hlay) hi hd hn hfit
    refine W.putFinK hexec hb hown hlink (hsame _ hi) hst hcf hin2 (by rw [q2]; exact h6) q1 q3 (by rw [hsl]; exact k2_hasslot (q4 k hk)) rfl rfl hdg fun H' e1 e2 e3 => ?_
    rw [hsl] at e1 ⊢
    exact kk H' _ ⟨_, hc, t_OB.to (V := updV (vp_V fs) k v) ⟨_, e1, q2, q3, t_set q4 hap hk v⟩ (fun j _ => vp_updV_set hl v j)⟩ e2 e3
/-- what a field of a type may keep -/
def okv (t : FieldType) (v : AV) : Prop := match t, v with
  | .int, .inl _ => True
  | .boolean, .inl x => x = 0 ∨ x = 1
  | .long, .inr (.inl _) => True
  | .object _, .inr (.inr _) => True
  | .array _, .inr (.inr _) => True
  | _, _ => False
def pV (σ : Hp) (f : Nat) (r : Int) (v : AV) : Hp := match v with
  | .inl x => pI σ f r x
  | .inr (.inl x) => pL σ f r x
  | .inr (.inr x) => pR σ f r x
theorem okb0 : narrow .boolean (.int (c32 0)) = .int (c32 0) ∧ fits .boolean (.int (c32 0)) = true := ⟨by decide, by decide⟩
theorem okb1 : narrow .boolean (.int (c32 1)) = .int (c32 1) ∧ fits .boolean (.int (c32 1)) = true := ⟨by decide, by decide⟩
theorem okv_fit {t : FieldType} {v : AV} (h : okv t v) (g : GG) : narrow t (cv g v) = cv g v ∧ fits t (cv g v) = true := by
  rcases v with x | x | x
  · cases t <;> first | exact ⟨rfl, rfl⟩ | (exact absurd h (by unfold okv; exact id)) | skip
    rcases (show x = 0 ∨ x = 1 from h) with rfl | rfl
    · exact okb0
    · exact okb1
  · cases t <;> first | exact ⟨rfl, rfl⟩ | (exact absurd h (by unfold okv; exact id))
  · cases t <;> first | (exact absurd h (by unfold okv; exact id)) | skip
    all_goals
      show narrow _ (va_rf (rv g x)) = va_rf (rv g x) ∧ fits _ (va_rf (rv g x)) = true
      cases rv g x <;> exact ⟨rfl, rfl⟩

theorem kd_pV (σ : Hp) (f : Nat) (r : Int) (v : AV) : kd (pV σ f r v) = kd σ := by rcases v with x | x | x <;> rfl
theorem ln_pV (σ : Hp) (f : Nat) (r : Int) (v : AV) : ln (pV σ f r v) = ln σ := by rcases v with x | x | x <;> rfl
theorem nx_pV (σ : Hp) (f : Nat) (r : Int) (v : AV) : nx (pV σ f r v) = nx σ := by rcases v with x | x | x <;> rfl
theorem aI_pV (σ : Hp) (f : Nat) (r : Int) (v : AV) : aI (pV σ f r v) = aI σ := by rcases v with x | x | x <;> rfl
theorem aL_pV (σ : Hp) (f : Nat) (r : Int) (v : AV) : aL (pV σ f r v) = aL σ := by rcases v with x | x | x <;> rfl
theorem aR_pV (σ : Hp) (f : Nat) (r : Int) (v : AV) : aR (pV σ f r v) = aR σ := by rcases v with x | x | x <;> rfl
theorem fI_pV {σ : Hp} {f f' : Nat} {r r' : Int} {v : AV} (h : f' ≠ f ∨ r' ≠ r) : fI (pV σ f r v) f' r' = fI σ f' r' := by
  rcases v with x | x | x
  · exact if_neg (by omega)
  · rfl
  · rfl
theorem fL_pV {σ : Hp} {f f' : Nat} {r r' : Int} {v : AV} (h : f' ≠ f ∨ r' ≠ r) : fL (pV σ f r v) f' r' = fL σ f' r' := by
  rcases v with x | x | x
  · rfl
  · exact if_neg (by omega)
  · rfl
theorem fR_pV {σ : Hp} {f f' : Nat} {r r' : Int} {v : AV} (h : f' ≠ f ∨ r' ≠ r) : fR (pV σ f r v) f' r' = fR σ f' r' := by
  rcases v with x | x | x
  · rfl
  · rfl
  · exact if_neg (by omega)
theorem fval_pV {g : GG} {σ : Hp} {t : FieldType} {f f' : Nat} {r r' : Int} {v : AV} (h : f' ≠ f ∨ r' ≠ r) : fval g (pV σ f r v) t f' r' = fval g σ t f' r' := by
  unfold fval
  rw [fI_pV h, fL_pV h, fR_pV h]
theorem fval_pV_self {g : GG} {σ : Hp} {t : FieldType} {f : Nat} {r : Int} {v : AV} (h : okv t v) : fval g (pV σ f r v) t f r = cv g v := by
  rcases v with x | x | x
  · have e : fI (pI σ f r x) f r = x := if_pos ⟨rfl, rfl⟩
    cases t <;> first | (exact absurd h (by unfold okv; exact id)) | (show Value.int (c32 (fI (pI σ f r x) f r)) = _; rw [e]; rfl)
  · have e : fL (pL σ f r x) f r = x := if_pos ⟨rfl, rfl⟩
    cases t <;> first | (exact absurd h (by unfold okv; exact id)) | (show Value.long (c64 (fL (pL σ f r x) f r)) = _; rw [e]; rfl)
  · have e : fR (pR σ f r x) f r = x := if_pos ⟨rfl, rfl⟩
    cases t <;> first | (exact absurd h (by unfold okv; exact id)) | (show va_rf (rv g (fR (pR σ f r x) f r)) = _; rw [e]; rfl)
theorem flds_pV {g : GG} {σ : Hp} {ci j : Nat} {r : Int} {v : AV} (hj : j < cN ci) (hv : okv (cty ci j) v) : flds g (pV σ ((ci + 1) * 100 + j) r v) ci r = (flds g σ ci r).set j (cv g v) := by
  apply List.ext_getElem?
  intro i
  by_cases hi : i < cN ci
  · rw [flds_at _ _ _ _ hi]
    by_cases e : i = j
    · subst e
      rw [List.getElem?_set_self (by rw [flds_len]; exact hi), fval_pV_self hv]
    · rw [List.getElem?_set_ne (Ne.symm e), flds_at _ _ _ _ hi, fval_pV (Or.inl (by omega))]
  · rw [List.getElem?_eq_none (by rw [flds_len]; omega), List.getElem?_eq_none (by rw [List.length_set, flds_len]; omega)]
theorem flds_pV_ne {g : GG} {σ : Hp} {ci f : Nat} {r r' : Int} {v : AV} (h : r' ≠ r) : flds g (pV σ f r v) ci r' = flds g σ ci r' := by
  unfold flds
  exact List.map_congr_left fun j _ => fval_pV (Or.inr h)
theorem cel_pV_ne {g : GG} {σ : Hp} {f : Nat} {r r' : Int} {v : AV} (h : r' ≠ r) : cel g (pV σ f r v) r' = cel g σ r' := by
  unfold cel aval
  rw [kd_pV, ln_pV, aI_pV, aL_pV, aR_pV, flds_pV_ne h]
theorem Wf.pV {σ : Hp} (w : Wf σ) {f : Nat} {r : Int} {v : AV} (h : r < nx σ) : Wf (pV σ f r v) := by
  unfold Wf
  rw [nx_pV, kd_pV, ln_pV, aI_pV, aL_pV, aR_pV]
  refine ⟨w.1, w.2.1, w.2.2.1, fun q hq => ?_⟩
  obtain ⟨a, b, c, d⟩ := w.2.2.2 q hq
  have hne : q ≠ r := by omega
  exact ⟨fun f' => by rw [fI_pV (Or.inr hne)]; exact a f', fun f' => by rw [fL_pV (Or.inr hne)]; exact b f', fun f' => by rw [fR_pV (Or.inr hne)]; exact c f', d⟩
theorem Str.pV {g : GG} {U : State} {σ : Hp} {H : Heap} (h : Str g U σ H) {f : Nat} {r : Int} {v : AV} (hr : 0 < r) (hk : kd σ r ≠ 20) : Str g U (pV σ f r v) H := by
  unfold Str StrB
  rw [kd_pV, ln_pV, aI_pV]
  rw [fR_pV (Or.inr (by omega)), fI_pV (Or.inr (by omega)), fR_pV (Or.inr (by omega))]
  refine ⟨fun q hq => ?_, h.2⟩
  have hne : q ≠ r := fun e => hk (by rw [← e]; exact hq)
  rw [fI_pV (Or.inr hne), fR_pV (Or.inr hne)]
  exact h.1 q hq
theorem w_put (C : MC g p s m args meth cd own cc nL ret) {index ci j : Nat} (hL : FLk own index ci j) {r : Int} {v : AV} (hk : kd σ r = ci + 1) (hv : okv (cty ci j) v) (hfin : (cT ci j).2.2.2 = false ∨ ((cT ci j).2.2.2 = true ∧ meth.name = "<init>" ∧ (cT ci j).1 = own)) (hd : decode cc pc = .ok (.putfield index, 3))
    (kk : WW g p l e s m args below meth cd nL lv mc ms Q (pc + 3) ls st (pV σ ((ci + 1) * 100 + j) r v) k) : WW g p l e s m args below meth cd nL lv mc ms Q pc ls (v :: vr r :: st) σ k := fun H locs la h1 h2 h3 h4 h5 => by
  obtain ⟨hci, hj, ref, hln, hsm⟩ := hL
  have hat := h1.1 r (Or.inl ⟨by omega, by omega⟩) (h1.2.1.pos hk (by omega) (Or.inl (by omega))).1
  rw [cel_obj hk (by omega), Nat.add_sub_cancel] at hat
  obtain ⟨hr0, hrn⟩ := h1.2.1.pos hk (by omega) (Or.inl (by omega))
  show W p l e (rmOf lv mc ms) s m args below meth cd H locs k.1 k.2 Q (F0 m pc la (cv g v :: va_rf (rv g r) :: st.map (cv g)))
  rw [rv_ne (by omega)]
  obtain ⟨hn, hf⟩ := okv_fit hv g
  refine zv_put C.hx C.hb C.hts (CLS_lay hci) (cty ci) (CLS_ty hci) (CLS_nm hci) C.hown C.hK hat (CLS_at hci) j hj (C.hts _ hln) (FLk.same (index := index) C hsm) hfin (CLS_ty hci j hj) hn hf (by rw [flds_len]; exact hj) hd fun H1 z a1 a2 a3 => ?_
  have hS2 := h2.put (k := z) a2 a3 (show AF g (ad g r) by rw [ad_pos g hr0]; exact Nat.le_add_right _ _)
  refine kk H1 _ la ⟨h1.1.put h1.2.1 C.hX hr0 (kd_pV _ _ _ _) (fun q hq => cel_pV_ne hq) ?_ a3, h1.2.1.pV hrn, by rw [a2, nx_pV]; exact h1.2.2.1, ?_⟩ hS2 h3 h4 h5
  · have hk2 : kd (pV σ ((ci + 1) * 100 + j) r v) r = ci + 1 := by rw [kd_pV]; exact hk
    rw [cel_obj hk2 (by omega), Nat.add_sub_cancel, flds_pV hj hv]
    exact a1
  · refine (h1.2.2.2.pV hr0 (by omega)).kept fun q hq hA => a3 q ?_
    intro e
    apply hA
    rw [e, ad_pos g hr0]
    exact Nat.le_add_right _ _
end RW2

/-! new places; references; ends -/
theorem cel_mk {g : GG} {σ : Hp} {κ : Nat} {n : Int} {q : Int} (h : q ≠ nx σ) : cel g (mk σ κ n) q = cel g σ q := by
  unfold cel aval flds fval
  rw [show kd (mk σ κ n) q = kd σ q from if_neg h, show ln (mk σ κ n) q = ln σ q from if_neg h]
  rfl
theorem Wf.mk {σ : Hp} (w : Wf σ) {κ : Nat} {n : Int} (hκ : (1 ≤ κ ∧ κ ≤ 14) ∨ (99 ≤ κ ∧ κ ≤ 107)) (hn : 0 ≤ n ∧ n < 2147483648) : Wf (mk σ κ n) := by
  unfold Wf
  rw [nx_mk]
  have h1 := w.1
  refine ⟨by omega, fun q hq => ?_, fun q => ?_, fun q hq => ?_⟩
  · rw [kd_mk] at hq ⊢
    rw [ln_mk]
    by_cases e : q = nx σ
    · rw [if_pos e, if_pos e]
      omega
    · rw [if_neg e] at hq
      rw [if_neg e, if_neg e]
      have := w.2.1 q hq
      omega
  · rw [ln_mk]
    by_cases e : q = nx σ
    · rw [if_pos e]; exact hn
    · rw [if_neg e]; exact w.2.2.1 q
  · exact w.2.2.2 q (by omega)
theorem Str.mk {g : GG} {U : State} {σ : Hp} {H : Heap} (h : Str g U σ H) {κ : Nat} {n : Int} (h0 : 1 ≤ nx σ) (h1 : kd σ (nx σ) = 0) (hκ : κ ≠ 20 ∧ κ ≠ 21 ∧ κ ≠ 108) : Str g U (mk σ κ n) H := by
  unfold Str StrB
  refine ⟨fun q hq => ?_, ⟨fun q hq => ?_, fun q q0 hq => ?_, fun q hq => ?_⟩, h.2.2⟩
  · rw [kd_mk] at hq
    by_cases e : q = nx σ
    · rw [if_pos e] at hq; omega
    · rw [if_neg e] at hq; exact h.1 q hq
  · rw [kd_mk] at hq
    rw [ln_mk]
    by_cases e : q = nx σ
    · rw [if_pos e] at hq; omega
    · rw [if_neg e] at hq ⊢; exact h.2.1.1 q hq
  · rw [kd_mk, if_neg (by omega)] at hq
    rw [ln_mk, if_neg (by omega)]
    exact h.2.1.2.1 q q0 hq
  · rw [kd_mk] at hq
    rw [ln_mk]
    by_cases e : q = nx σ
    · rw [if_pos e] at hq; omega
    · rw [if_neg e] at hq ⊢; exact h.2.1.2.2 q hq
theorem Wf.kd0 {σ : Hp} (w : Wf σ) : kd σ (nx σ) = 0 := by
  by_cases h : kd σ (nx σ) = 0
  · exact h
  · have := (w.2.1 _ h).2.1; omega
theorem vp_V_flds {g : GG} {σ : Hp} {ci : Nat} {r : Int} {j : Nat} (h : j < cN ci) : vp_V (flds g σ ci r) j = fval g σ (cty ci j) ((ci + 1) * 100 + j) r := by
  unfold vp_V
  rw [List.getD_eq_getElem?_getD, flds_at _ _ _ _ h]
  rfl
theorem cty_ok {ci : Nat} (h : ci < 14) : ∀ k, k < cN ci → cty ci k ≠ .float ∧ cty ci k ≠ .double := by
  have : ci = 0 ∨ ci = 1 ∨ ci = 2 ∨ ci = 3 ∨ ci = 4 ∨ ci = 5 ∨ ci = 6 ∨ ci = 7 ∨ ci = 8 ∨ ci = 9 ∨ ci = 10 ∨ ci = 11 ∨ ci = 12 ∨ ci = 13 := by omega
  rcases this with h | h | h | h | h | h | h | h | h | h | h | h | h | h <;> subst h <;> decide +kernel
theorem aval_newI {g : GG} {σ : Hp} {κ : Nat} {r n : Int} (h : κ = 101 ∨ κ = 103 ∨ κ = 104 ∨ κ = 108) (hl : ln σ r = n) (h0 : ∀ j, aI σ r j = 0) : aval g σ κ r = (n.toNat, .inl fun _ => 0) := by
  rw [aval_int h, hl]
  refine congrArg (fun z => (n.toNat, Sum.inl z)) (funext fun j => ?_)
  rw [h0, c32_0]
theorem aval_newL {g : GG} {σ : Hp} {r n : Int} (hl : ln σ r = n) (h0 : ∀ j, aL σ r j = 0) : aval g σ 102 r = (n.toNat, .inr (.inl fun _ => 0)) := by
  rw [aval_long, hl]
  refine congrArg (fun z => (n.toNat, Sum.inr (Sum.inl z))) (funext fun j => ?_)
  rw [h0]
  rfl
theorem aval_newR {g : GG} {σ : Hp} {κ : Nat} {r n : Int} (h : κ = 105 ∨ κ = 106 ∨ κ = 107) (hl : ln σ r = n) (h0 : ∀ j, aR σ r j = 0) : aval g σ κ r = (n.toNat, .inr (.inr (.inr (.inr fun _ => none)))) := by
  rw [aval_ref h, hl]
  refine congrArg (fun z => (n.toNat, Sum.inr (Sum.inr (Sum.inr (Sum.inr z))))) (funext fun j => ?_)
  rw [h0]
  rfl
section RW4
variable {g : GG} {p : Program} {l : Launch} {e : Env} {s : State} {m : MethodId} {args : Array Value} {below : List Frame} {meth : Method} {cd : Code} {nL lv mc ms : Nat} {Q : State → Prop}
variable {own : String} {cc : ByteArray} {ret : Option FieldType} {pc : Nat} {ls : List (Option AV)} {st : List AV} {σ : Hp} {k : Nat × Nat}
theorem ad_nx {H : Heap} (h1 : HB g s σ H) : ad g (nx σ) = H.size := by
  have h := h1.2.1.1
  rw [ad_pos g (by omega), h1.2.2.1.2 _ (Int.le_refl _), h1.2.2.1.1]
  omega
theorem HB.mk {H H1 : Heap} {locs : List Loc} (h1 : HB g s σ H) (h2 : va_S (AF g) s.heap H locs) {κ : Nat} {n : Int} (hκ : (1 ≤ κ ∧ κ ≤ 14) ∨ (99 ≤ κ ∧ κ ≤ 107)) (hn : 0 ≤ n ∧ n < 2147483648)
    (he : trk κ → va_at (gD g) CLS (ad g (nx σ), cel g (mk σ κ n) (nx σ)) H1) (z1 : H1.size = H.size + 1) (o1 : ∀ q : Nat, q < H.size → H1[q]? = H[q]?) : HB g s (mk σ κ n) H1 ∧ va_S (AF g) s.heap H1 locs := by
  have hp := h1.2.1.1
  refine ⟨⟨h1.1.grow (fun q hq => if_neg hq) (fun q hq _ => cel_mk hq) (fun ht => he ?_) o1, h1.2.1.mk hκ hn, ?_, ?_⟩, ⟨by rw [z1]; exact Nat.le_succ_of_le h2.1, fun x a b => (o1 x (Nat.lt_of_lt_of_le a h2.1)).trans (h2.2.1 x a b), h2.2.2⟩⟩
  · rw [kd_mk, if_pos rfl] at ht; exact ht
  · refine ⟨?_, fun r hr => h1.2.2.1.2 r ?_⟩
    · rw [z1, h1.2.2.1.1, nx_mk]
      omega
    · rw [nx_mk] at hr
      omega
  · refine (h1.2.2.2.mk h1.2.1.1 h1.2.1.kd0 (by omega)).kept fun a ha _ => o1 a ha
theorem w_new (C : MC g p s m args meth cd own cc nL ret) {index ci : Nat} (hci : ci < 14) (hL : Cond.classLink own index (cR ci) ∈ TBL) (hI : Cond.instantiable (cR ci) (cN ci) ∈ TBL) (hJ : Cond.initialized (cR ci) ∈ TBL) (hc : k.1 + 1 ≤ mc) (hs : k.2 + cN ci ≤ ms) (hd : decode cc pc = .ok (.new index, 3))
    (kk : WW g p l e s m args below meth cd nL lv mc ms Q (pc + 3) ls (vr (nx σ) :: st) (mk σ (ci + 1) 0) (k.1 + 1, k.2 + cN ci)) : WW g p l e s m args below meth cd nL lv mc ms Q pc ls st σ k := fun H locs la h1 h2 h3 h4 h5 => by
  have hKn := C.hK.1 ci _ (CLS_at hci)
  have hp := h1.2.1.1
  refine W.newcK C.hx C.hb C.hown (C.hts _ hL) (C.hts _ hI) (C.hts _ hJ) rfl hd hc hs hKn.2.1 rfl fun H1 kC hkC e1 z1 o1 => ?_
  have he : trk (ci + 1) → va_at (gD g) CLS (ad g (nx σ), cel g (mk σ (ci + 1) 0) (nx σ)) H1 := fun _ => by
    have hk2 : kd (mk σ (ci + 1) 0) (nx σ) = ci + 1 := if_pos rfl
    rw [cel_obj hk2 (by omega), Nat.add_sub_cancel, ad_nx h1]
    refine ⟨_, CLS_at hci, (u_born (cty ci) C.hts (CLS_lay hci) hKn hkC e1 (CLS_ty hci)).to fun j hj => ?_⟩
    show defaultValue (cty ci j) = vp_V _ j
    rw [vp_V_flds hj]
    obtain ⟨z1, z2, z3, -⟩ := h1.2.1.2.2.2 (nx σ) (by omega)
    obtain ⟨n1, n2⟩ := cty_ok hci j hj
    have y1 : fI (mk σ (ci + 1) 0) ((ci + 1) * 100 + j) (nx σ) = 0 := z1 _
    have y2 : fL (mk σ (ci + 1) 0) ((ci + 1) * 100 + j) (nx σ) = 0 := z2 _
    have y3 : fR (mk σ (ci + 1) 0) ((ci + 1) * 100 + j) (nx σ) = 0 := z3 _
    unfold fval
    generalize cty ci j = t at n1 n2
    cases t <;> first | exact absurd rfl n1 | exact absurd rfl n2 | (dsimp only; rw [y1]; rfl) | (dsimp only; rw [y2]; rfl) | (dsimp only; rw [y3]; rfl)
  obtain ⟨hB, hS⟩ := h1.mk h2 (κ := ci + 1) (n := 0) (Or.inl (by omega)) (by omega) he z1 o1
  have kk1 := kk H1 locs la hB hS h3 hc hs
  have kk1 : W p l e (rmOf lv mc ms) s m args below meth cd H1 locs (k.1 + 1) (k.2 + cN ci) Q (F0 m (pc + 3) la (va_rf (rv g (nx σ)) :: st.map (cv g))) := kk1
  rw [rv_ne (by omega), ad_nx h1] at kk1
  exact kk1
def nkd : ArrayType → Nat
  | .int => 101
  | .long => 102
  | .boolean => 103
  | .char => 104
  | _ => 0
theorem w_newa (C : MC g p s m args meth cd own cc nL ret) {at' : ArrayType} (hat : nkd at' ≠ 0) (hA : Cond.arrayClass (newarray.typeOf at') ∈ TBL) {n : Int} (hn : 0 ≤ n ∧ n ≤ 65536) (hc : k.1 + 1 ≤ mc) (hs : k.2 + n.toNat ≤ ms) (hd : decode cc pc = .ok (.newarray at', 2))
    (kk : WW g p l e s m args below meth cd nL lv mc ms Q (pc + 2) ls (vr (nx σ) :: st) (mk σ (nkd at') n) (k.1 + 1, k.2 + n.toNat)) : WW g p l e s m args below meth cd nL lv mc ms Q pc ls (vi n :: st) σ k := fun H locs la h1 h2 h3 h4 h5 => by
  have hp := h1.2.1.1
  have hcl : (c32 n).toNatClampNeg = n.toNat := c32_clamp hn.1 (by omega)
  have hneg : ¬ c32 n < 0 := by rw [z_lt, wI_id (by omega) (by omega)]; show ¬ n < wI 0; unfold wI; omega
  have hby : n.toNat * componentBytes (newarray.typeOf at') ≤ 536870912 := by
    cases at' <;> first | exact absurd rfl hat | (show n.toNat * 1 ≤ _; omega) | (show n.toNat * 2 ≤ _; omega) | (show n.toNat * 4 ≤ _; omega) | (show n.toNat * 8 ≤ _; omega)
  refine va_newaK C.hx C.hb (C.hts _ hA) rfl hd rfl hneg hcl hby hc hs rfl fun H1 cA e1 z1 o1 hAr hNm => ?_
  have hz := h1.2.1.2.2.2 (nx σ) (by omega)
  have hκ : (1 ≤ nkd at' ∧ nkd at' ≤ 14) ∨ (99 ≤ nkd at' ∧ nkd at' ≤ 107) := by cases at' <;> first | exact absurd rfl hat | decide
  have he : trk (nkd at') → va_at (gD g) CLS (ad g (nx σ), cel g (mk σ (nkd at') n) (nx σ)) H1 := fun _ => by
    have hk2 : kd (mk σ (nkd at') n) (nx σ) = nkd at' := if_pos rfl
    have hl2 : ln (mk σ (nkd at') n) (nx σ) = n := if_pos rfl
    rw [cel_arr hk2 (by cases at' <;> first | exact absurd rfl hat | decide), ad_nx h1]
    show H1[H.size]? = some (vp_cell _ (aval _ _ _ _))
    rw [e1]
    obtain ⟨z1, z2, z3, z4, z5, z6⟩ := hz
    have y4 : ∀ j, aI (mk σ (nkd at') n) (nx σ) j = 0 := z4
    have y5 : ∀ j, aL (mk σ (nkd at') n) (nx σ) j = 0 := z5
    cases at' <;> first | exact absurd rfl hat | skip
    · have hcA := (C.hK.2 2 _ rfl).2
      cases hNm.symm.trans hcA
      show _ = some (vp_cell (gA g 103) (aval g _ 103 _))
      rw [aval_newI (κ := 103) (by decide) hl2 y4]
      rfl
    · have hcA := (C.hK.2 3 _ rfl).2
      cases hNm.symm.trans hcA
      show _ = some (vp_cell (gA g 104) (aval g _ 104 _))
      rw [aval_newI (κ := 104) (by decide) hl2 y4]
      rfl
    · have hcA := (C.hK.2 0 _ rfl).2
      cases hNm.symm.trans hcA
      show _ = some (vp_cell (gA g 101) (aval g _ 101 _))
      rw [aval_newI (κ := 101) (by decide) hl2 y4]
      rfl
    · have hcA := (C.hK.2 1 _ rfl).2
      cases hNm.symm.trans hcA
      show _ = some (vp_cell (gA g 102) (aval g _ 102 _))
      rw [aval_newL hl2 y5]
      rfl
  obtain ⟨hB, hS⟩ := h1.mk h2 (κ := nkd at') (n := n) hκ (by omega) he z1 o1
  have kk1 := kk H1 locs la hB hS h3 hc hs
  have kk1 : W p l e (rmOf lv mc ms) s m args below meth cd H1 locs (k.1 + 1) (k.2 + n.toNat) Q (F0 m (pc + 2) la (va_rf (rv g (nx σ)) :: st.map (cv g))) := kk1
  rw [rv_ne (by omega), ad_nx h1] at kk1
  exact kk1
theorem w_newq (C : MC g p s m args meth cd own cc nL ret) {index κ : Nat} {Cn : String} (hκ : (κ = 105 ∧ Cn = "java/lang/Object") ∨ (κ = 106 ∧ Cn = "AlarmBoxes$Loop")) (hL : Cond.classLink own index Cn ∈ TBL) (hA : Cond.arrayOver (.object Cn) ∈ XW) {n : Int} (hn : 0 ≤ n ∧ n ≤ 65536) (hc : k.1 + 1 ≤ mc) (hs : k.2 + n.toNat ≤ ms) (hd : decode cc pc = .ok (.anewarray index, 3))
    (kk : WW g p l e s m args below meth cd nL lv mc ms Q (pc + 3) ls (vr (nx σ) :: st) (mk σ κ n) (k.1 + 1, k.2 + n.toNat)) : WW g p l e s m args below meth cd nL lv mc ms Q pc ls (vi n :: st) σ k := fun H locs la h1 h2 h3 h4 h5 => by
  have hp := h1.2.1.1
  have hcl : (c32 n).toNatClampNeg = n.toNat := c32_clamp hn.1 (by omega)
  have hneg : ¬ c32 n < 0 := by rw [z_lt, wI_id (by omega) (by omega)]; show ¬ n < wI 0; unfold wI; omega
  have hz := h1.2.1.2.2.2 (nx σ) (by omega)
  refine W.anew C.hx C.hb C.hown (C.hts _ hL) (va_AO.use (C.hE _ hA)) rfl hd rfl hneg (by rw [hcl]; omega) hc (by rw [hcl]; exact hs) fun cA kA comp f1 f2 f3 f4 => ?_
  generalize hH1 : H.push ({ cls := cA, slots := Array.replicate (c32 n).toNatClampNeg .null, vm := .none } : Cell) = H1
  have z1 : H1.size = H.size + 1 := by rw [← hH1, Array.size_push]
  have e1 : H1[H.size]? = some (arrV cA n.toNat (fun _ => .null)) := by rw [← hH1, Array.getElem?_push_size, hcl, ← arrV_new]
  have o1 : ∀ q : Nat, q < H.size → H1[q]? = H[q]? := fun q hq => by rw [← hH1, Array.getElem?_push, if_neg (Nat.ne_of_lt hq)]
  have he : trk κ → va_at (gD g) CLS (ad g (nx σ), cel g (mk σ κ n) (nx σ)) H1 := fun _ => by
    have hk2 : kd (mk σ κ n) (nx σ) = κ := if_pos rfl
    have hl2 : ln (mk σ κ n) (nx σ) = n := if_pos rfl
    rw [cel_arr hk2 (by omega), ad_nx h1]
    show H1[H.size]? = some (vp_cell _ (aval _ _ _ _))
    rw [e1, aval_newR (by omega) hl2 hz.2.2.2.2.2]
    rcases hκ with ⟨rfl, rfl⟩ | ⟨rfl, rfl⟩
    · obtain ⟨kA9, comp9, g1, g2, g3, g4⟩ := (C.hK.2 4 _ rfl).2
      cases f1.symm.trans g4
      rfl
    · obtain ⟨kA9, comp9, g1, g2, g3, g4⟩ := (C.hK.2 5 _ rfl).2
      cases f1.symm.trans g4
      rfl
  obtain ⟨hB, hS⟩ := h1.mk h2 (κ := κ) (n := n) (Or.inr (by omega)) (by omega) he z1 o1
  have kk1 := kk H1 locs la hB hS h3 hc hs
  have kk1 : W p l e (rmOf lv mc ms) s m args below meth cd H1 locs (k.1 + 1) (k.2 + n.toNat) Q (F0 m (pc + 3) la (va_rf (rv g (nx σ)) :: st.map (cv g))) := kk1
  rw [rv_ne (by omega), ad_nx h1] at kk1
  rw [hcl]
  exact kk1
/-- references, compared -/
theorem rv_inj {H : Heap} (h1 : HB g s σ H) (hX : PM g) {x y : Int} (hx : 0 ≤ x) (hy : 0 ≤ y) (e9 : rv g x = rv g y) : x = y := by
  unfold rv at e9
  by_cases h : x = 0
  · rw [if_pos h] at e9
    by_cases h' : y = 0
    · omega
    · rw [if_neg h'] at e9; cases e9
  · rw [if_neg h] at e9
    by_cases h' : y = 0
    · rw [if_pos h'] at e9; cases e9
    · rw [if_neg h'] at e9
      exact ad_inj g hX (by omega) (by omega) (Option.some.inj e9)
theorem w_acmp (C : MC g p s m args meth cd own cc nL ret) {c : ACond} {x y off : Int} {tgt : Nat} (hx : 0 ≤ x ∧ 0 ≤ y) (ht : (pc : Int) + off = (tgt : Int)) (hd : decode cc pc = .ok (.if_acmp c off, 3)) (kt : (match c with | .eq => x = y | .ne => ¬ x = y) → WW g p l e s m args below meth cd nL lv mc ms Q tgt ls st σ k) (kf : ¬ (match c with | .eq => x = y | .ne => ¬ x = y) → WW g p l e s m args below meth cd nL lv mc ms Q (pc + 3) ls st σ k) : WW g p l e s m args below meth cd nL lv mc ms Q pc ls (vr y :: vr x :: st) σ k := fun H locs la h1 h2 h3 h4 h5 => by
  have inj : rv g x = rv g y ↔ x = y := ⟨rv_inj h1 C.hX hx.1 hx.2, fun h => by rw [h]⟩
  cases c
  · exact lv_acmp_eq C.hx C.hb hd ht (fun h => kt (inj.mp h) H locs la h1 h2 h3 h4 h5) (fun h => kf (fun z => h (inj.mpr z)) H locs la h1 h2 h3 h4 h5)
  · exact lv_acmp_ne C.hx C.hb hd ht (fun h => kt (fun z => h (inj.mpr z)) H locs la h1 h2 h3 h4 h5) (fun h => kf (fun z => z (inj.mp h)) H locs la h1 h2 h3 h4 h5)
theorem w_ifnull (C : MC g p s m args meth cd own cc nL ret) {x off : Int} {tgt : Nat} (ht : (pc : Int) + off = (tgt : Int)) (hd : decode cc pc = .ok (.ifnull off, 3)) (kt : x = 0 → WW g p l e s m args below meth cd nL lv mc ms Q tgt ls st σ k) (kf : ¬ x = 0 → WW g p l e s m args below meth cd nL lv mc ms Q (pc + 3) ls st σ k) : WW g p l e s m args below meth cd nL lv mc ms Q pc ls (vr x :: st) σ k := fun H locs la h1 h2 h3 h4 h5 => by
  show W p l e (rmOf lv mc ms) s m args below meth cd H locs k.1 k.2 Q (F0 m pc la (va_rf (rv g x) :: st.map (cv g)))
  by_cases h : x = 0
  · rw [show rv g x = none from if_pos h]
    exact lv_ifnullN C.hx C.hb hd ht (kt h H locs la h1 h2 h3 h4 h5)
  · rw [rv_ne h]
    exact lv_ifnull C.hx C.hb hd (kf h H locs la h1 h2 h3 h4 h5)
theorem w_ifnonnull (C : MC g p s m args meth cd own cc nL ret) {x off : Int} {tgt : Nat} (ht : (pc : Int) + off = (tgt : Int)) (hd : decode cc pc = .ok (.ifnonnull off, 3)) (kt : ¬ x = 0 → WW g p l e s m args below meth cd nL lv mc ms Q tgt ls st σ k) (kf : x = 0 → WW g p l e s m args below meth cd nL lv mc ms Q (pc + 3) ls st σ k) : WW g p l e s m args below meth cd nL lv mc ms Q pc ls (vr x :: st) σ k := fun H locs la h1 h2 h3 h4 h5 => by
  show W p l e (rmOf lv mc ms) s m args below meth cd H locs k.1 k.2 Q (F0 m pc la (va_rf (rv g x) :: st.map (cv g)))
  by_cases h : x = 0
  · rw [show rv g x = none from if_pos h]
    exact lv_ifnonnullN C.hx C.hb hd (kf h H locs la h1 h2 h3 h4 h5)
  · rw [rv_ne h]
    exact lv_ifnonnull C.hx C.hb hd ht (kt h H locs la h1 h2 h3 h4 h5)
theorem recv_obj {H : Heap} (hK : va_K (gD g) CLS (ATY g) s) (h1 : HB g s σ H) {ci : Nat} (hci : ci < 14) {r : Int} (hk : kd σ r = ci + 1) : ∃ cell : Cell, H[ad g r]? = some cell ∧ cell.vm.isStatics = false ∧ s.vm.findClass (cR ci) = some cell.cls := by
  have hat := h1.1 r (Or.inl ⟨by omega, by omega⟩) (h1.2.1.pos hk (by omega) (Or.inl (by omega))).1
  rw [cel_obj hk (by omega), Nat.add_sub_cancel] at hat
  exact va_recv hK (one_P hat) (CLS_at hci) (q0 := 0) rfl
/-- a cast to the object's own class -/
theorem w_chk (C : MC g p s m args meth cd own cc nL ret) {index ci : Nat} (hci : ci < 14) (hL : Cond.classLink own index (cR ci) ∈ TBL) {x : Int} (hk : kd σ x = ci + 1) (hd : decode cc pc = .ok (.checkcast index, 3)) (kk : WW g p l e s m args below meth cd nL lv mc ms Q (pc + 3) ls (vr x :: st) σ k) : WW g p l e s m args below meth cd nL lv mc ms Q pc ls (vr x :: st) σ k := fun H locs la h1 h2 h3 h4 h5 => by
  have kk1 := kk H locs la h1 h2 h3 h4 h5
  have hr0 := (h1.2.1.2.1 x (by omega)).1
  have kk1 : W p l e (rmOf lv mc ms) s m args below meth cd H locs k.1 k.2 Q (F0 m (pc + 3) la (va_rf (rv g x) :: st.map (cv g))) := kk1
  show W p l e (rmOf lv mc ms) s m args below meth cd H locs k.1 k.2 Q (F0 m pc la (va_rf (rv g x) :: st.map (cv g)))
  rw [rv_ne hr0] at kk1 ⊢
  exact va_castS C.hx C.hb C.hown (C.hts _ hL) (C.hK.1 ci _ (CLS_at hci)).2 (recv_obj C.hK h1 hci hk) hd kk1
theorem w_ldc (C : MC g p s m args meth cd own cc nL ret) {index : Nat} {v : Int} (hL : Cond.constant own index (c32 v) ∈ TBL) (hd : decode cc pc = .ok (.ldc index, 2)) (kk : WW g p l e s m args below meth cd nL lv mc ms Q (pc + 2) ls (vi v :: st) σ k) : WW g p l e s m args below meth cd nL lv mc ms Q pc ls st σ k := fun H locs la h1 h2 h3 h4 h5 => lv_ldc C.hx C.hb C.hown (C.hts _ hL) hd (kk H locs la h1 h2 h3 h4 h5)
theorem w_ldcw (C : MC g p s m args meth cd own cc nL ret) {index : Nat} {v : Int} (hL : Cond.constant own index (c32 v) ∈ TBL) (hd : decode cc pc = .ok (.ldc_w index, 3)) (kk : WW g p l e s m args below meth cd nL lv mc ms Q (pc + 3) ls (vi v :: st) σ k) : WW g p l e s m args below meth cd nL lv mc ms Q pc ls st σ k := fun H locs la h1 h2 h3 h4 h5 => lv_ldcw C.hx C.hb C.hown (C.hts _ hL) hd (kk H locs la h1 h2 h3 h4 h5)
theorem w_ldc2 (C : MC g p s m args meth cd own cc nL ret) {index : Nat} {v : BitVec 64} (hL : Cond.constantLong own index (c64 v) ∈ TBL) (hd : decode cc pc = .ok (.ldc2_w index, 3)) (kk : WW g p l e s m args below meth cd nL lv mc ms Q (pc + 3) ls (vl v :: st) σ k) : WW g p l e s m args below meth cd nL lv mc ms Q pc ls st σ k := fun H locs la h1 h2 h3 h4 h5 => lv_ldc2 C.hx C.hb C.hown (C.hts _ hL) hd (kk H locs la h1 h2 h3 h4 h5)
/-- a String constant: its place is -(1 + i) .. by its number i -/
theorem w_ldcS (C : MC g p s m args meth cd own cc nL ret) {index i : Nat} {tx : String} (hi : 0 < i) (hL : (own, index, tx, i) ∈ STRS) (hd : decode cc pc = .ok (.ldc index, 2)) (kk : WW g p l e s m args below meth cd nL lv mc ms Q (pc + 2) ls (vr (-(i : Int)) :: st) σ k) : WW g p l e s m args below meth cd nL lv mc ms Q pc ls st σ k := fun H locs la h1 h2 h3 h4 h5 => by
  have kk1 := kk H locs la h1 h2 h3 h4 h5
  have kk1 : W p l e (rmOf lv mc ms) s m args below meth cd H locs k.1 k.2 Q (F0 m (pc + 2) la (va_rf (rv g (-(i : Int))) :: st.map (cv g))) := kk1
  rw [rv_ne (by omega), ad_neg g (by omega), show (-(-(i : Int))).toNat = i by omega] at kk1
  exact va_ldcS C.hx C.hb C.hown (C.hSx.1 _ _ _ _ hL) hd kk1
theorem w_gets (C : MC g p s m args meth cd own cc nL ret) {index : Nat} {Cn n d : String} {v : AV} (hZ : ∀ H, HB g s σ H → va_S (AF g) s.heap H [] → va_Z Cn n d (cv g v) (AF g) s H) (hL : Cond.fieldLink own index Cn n d ∈ TBL) (hd : decode cc pc = .ok (.getstatic index, 3)) (kk : WW g p l e s m args below meth cd nL lv mc ms Q (pc + 3) ls (v :: st) σ k) : WW g p l e s m args below meth cd nL lv mc ms Q pc ls st σ k := fun H locs la h1 h2 h3 h4 h5 => by
  obtain ⟨cf, kf, fi, f, a, cell, q1, q2, q3, q4, q5, q6, q7, q8⟩ := hZ H h1 ⟨h2.1, h2.2.1, fun _ h => by cases h⟩
  exact W.gets C.hx C.hb C.hown (C.hts _ hL) q1 q2 q3 q4 q5 (fun e => by rw [e] at q6; cases q6) q7 rfl hd (kk H locs la h1 h2 h3 h4 h5)
end RW4

/-! arrays -/
theorem aval_int {g : GG} {σ : Hp} {κ : Nat} {r : Int} (h : κ = 101 ∨ κ = 103 ∨ κ = 104 ∨ κ = 108) : aval g σ κ r = ((ln σ r).toNat, .inl fun j => c32 (aI σ r j)) := by
  unfold aval
  rw [if_neg (by omega), if_neg (by omega)]
theorem aval_long {g : GG} {σ : Hp} {r : Int} : aval g σ 102 r = ((ln σ r).toNat, .inr (.inl fun j => c64 (aL σ r j))) := rfl
theorem aval_ref {g : GG} {σ : Hp} {κ : Nat} {r : Int} (h : κ = 105 ∨ κ = 106 ∨ κ = 107) : aval g σ κ r = ((ln σ r).toNat, .inr (.inr (.inr (.inr fun j => rv g (aR σ r j))))) := by
  unfold aval
  rw [if_neg (by omega), if_pos h]
theorem one_P {D : va_G} {cl : List vw_C} {a : Nat} {e : va_E} {H : Heap} (h : va_at D cl (a, e) H) : va_P D cl [(a, e)] H := fun k9 q9 h9 => by
  have h0 : k9 < 1 := (List.getElem?_eq_some_iff.mp h9).1
  rw [show k9 = 0 by omega] at h9
  cases h9
  exact h
theorem Sim.arr {g : GG} {σ : Hp} {H : Heap} (h : Sim g σ H) {r : Int} {κ : Nat} (hk : kd σ r = κ) (h2 : 101 ≤ κ ∧ κ ≤ 108) (hr : 0 < r) : va_at (gD g) CLS (ad g r, .inl (gA g κ, aval g σ κ r)) H := by
  have := h r (Or.inr (by omega)) hr
  rw [cel_arr hk (by omega)] at this
  exact this
theorem nar_c {v : Int} (h : 0 ≤ v ∧ v < 65536) : narrow .char (.int (c32 v)) = .int (c32 v) := by
  have e : c32 v = nI v.toNat := by
    apply Int32.toInt_inj.mp
    rw [nI_toInt (by omega), c32_toInt, wI_id (by omega) (by omega)]
    omega
  rw [e]
  exact (pk_charN (by omega)).1
section RW3
variable {g : GG} {p : Program} {l : Launch} {e : Env} {s : State} {m : MethodId} {args : Array Value} {below : List Frame} {meth : Method} {cd : Code} {nL lv mc ms : Nat} {Q : State → Prop}
variable {own : String} {cc : ByteArray} {ret : Option FieldType} {pc : Nat} {ls : List (Option AV)} {st : List AV} {σ : Hp} {k : Nat × Nat}
theorem cv_cast {i : Int} (h : 0 ≤ i) : ((i.toNat : Nat) : Int) = i := Int.toNat_of_nonneg h

theorem w_iald (C : MC g p s m args meth cd own cc nL ret) {r i : Int} (hk : kd σ r = 101 ∨ kd σ r = 108) (hi : 0 ≤ i ∧ i < ln σ r) (hd : decode cc pc = .ok (.iaload, 1)) (kk : WW g p l e s m args below meth cd nL lv mc ms Q (pc + 1) ls (vi (aI σ r i) :: st) σ k) : WW g p l e s m args below meth cd nL lv mc ms Q pc ls (vi i :: vr r :: st) σ k := fun H locs la h1 h2 h3 h4 h5 => by
  have kk1 := kk H locs la h1 h2 h3 h4 h5
  have hr0 := (h1.2.1.2.1 r (by omega)).1
  have hlen := h1.2.1.2.2.1 r
  show W p l e (rmOf lv mc ms) s m args below meth cd H locs k.1 k.2 Q (F0 m pc la (.int (c32 i) :: va_rf (rv g r) :: st.map (cv g)))
  rw [rv_ne hr0]
  rcases hk with hk | hk
  · have hat := h1.1.arr hk (by decide) (h1.2.1.pos hk (by decide) (by decide)).1
    rw [aval_int (by decide)] at hat
    refine va_iald C.hx C.hb C.hK (one_P hat) 0 0 rfl rfl (c32_in hi.1 (by omega) (by omega)) hd ?_
    rw [c32_clamp hi.1 (by omega), cv_cast hi.1]
    exact kk1
  · obtain ⟨cell, q1, q2, q3, q4, q5, q6, q7⟩ := h1.2.2.2.2.1.2.2 r hk
    have hcl : (c32 i).toNatClampNeg = i.toNat := c32_clamp hi.1 (by omega)
    have hneg : ¬ c32 i < 0 := by rw [z_lt, wI_id (by omega) (by omega)]; show ¬ i < wI 0; unfold wI; omega
    refine W.iald C.hx C.hb q1 q2 q3 (fun h => by rcases h with h | h; exact hneg h; rw [hcl] at h; omega) (v := .int (c32 (aI σ r i))) ?_ rfl rfl hd kk1
    rw [hcl, q6 _ (by omega)]
    show some (Value.int (c32 (aI σ r (i.toNat : Int)))) = _
    rw [cv_cast hi.1]
theorem w_lald (C : MC g p s m args meth cd own cc nL ret) {r i : Int} (hk : kd σ r = 102) (hi : 0 ≤ i ∧ i < ln σ r) (hd : decode cc pc = .ok (.laload, 1)) (kk : WW g p l e s m args below meth cd nL lv mc ms Q (pc + 1) ls (vl (aL σ r i) :: st) σ k) : WW g p l e s m args below meth cd nL lv mc ms Q pc ls (vi i :: vr r :: st) σ k := fun H locs la h1 h2 h3 h4 h5 => by
  have kk1 := kk H locs la h1 h2 h3 h4 h5
  have hr0 := (h1.2.1.2.1 r (by omega)).1
  have hlen := h1.2.1.2.2.1 r
  show W p l e (rmOf lv mc ms) s m args below meth cd H locs k.1 k.2 Q (F0 m pc la (.int (c32 i) :: va_rf (rv g r) :: st.map (cv g)))
  rw [rv_ne hr0]
  have hat := h1.1.arr hk (by decide) (h1.2.1.pos hk (by decide) (by decide)).1
  rw [aval_long] at hat
  refine va_lald C.hx C.hb C.hK (one_P hat) 0 1 rfl rfl (c32_in hi.1 (by omega) (by omega)) hd ?_
  rw [c32_clamp hi.1 (by omega), cv_cast hi.1]
  exact kk1
theorem w_cald (C : MC g p s m args meth cd own cc nL ret) {r i : Int} (hk : kd σ r = 104) (hi : 0 ≤ i ∧ i < ln σ r) (hd : decode cc pc = .ok (.caload, 1)) (kk : WW g p l e s m args below meth cd nL lv mc ms Q (pc + 1) ls (vi (aI σ r i) :: st) σ k) : WW g p l e s m args below meth cd nL lv mc ms Q pc ls (vi i :: vr r :: st) σ k := fun H locs la h1 h2 h3 h4 h5 => by
  have kk1 := kk H locs la h1 h2 h3 h4 h5
  have hr0 := (h1.2.1.2.1 r (by omega)).1
  have hlen := h1.2.1.2.2.1 r
  show W p l e (rmOf lv mc ms) s m args below meth cd H locs k.1 k.2 Q (F0 m pc la (.int (c32 i) :: va_rf (rv g r) :: st.map (cv g)))
  rw [rv_ne hr0]
  have hat := h1.1.arr hk (by decide) (h1.2.1.pos hk (by decide) (by decide)).1
  rw [aval_int (by decide)] at hat
  refine va_cald C.hx C.hb C.hK (one_P hat) 0 3 rfl rfl (c32_in hi.1 (by omega) (by omega)) hd ?_
  rw [c32_clamp hi.1 (by omega), cv_cast hi.1]
  exact kk1
theorem w_zald (C : MC g p s m args meth cd own cc nL ret) {r i : Int} (hk : kd σ r = 103) (hi : 0 ≤ i ∧ i < ln σ r) (hd : decode cc pc = .ok (.baload, 1)) (kk : WW g p l e s m args below meth cd nL lv mc ms Q (pc + 1) ls (vi (aI σ r i) :: st) σ k) : WW g p l e s m args below meth cd nL lv mc ms Q pc ls (vi i :: vr r :: st) σ k := fun H locs la h1 h2 h3 h4 h5 => by
  have kk1 := kk H locs la h1 h2 h3 h4 h5
  have hr0 := (h1.2.1.2.1 r (by omega)).1
  have hlen := h1.2.1.2.2.1 r
  show W p l e (rmOf lv mc ms) s m args below meth cd H locs k.1 k.2 Q (F0 m pc la (.int (c32 i) :: va_rf (rv g r) :: st.map (cv g)))
  rw [rv_ne hr0]
  have hat := h1.1.arr hk (by decide) (h1.2.1.pos hk (by decide) (by decide)).1
  rw [aval_int (by decide)] at hat
  refine va_zald C.hx C.hb C.hK (one_P hat) 0 2 rfl rfl (c32_in hi.1 (by omega) (by omega)) hd ?_
  rw [c32_clamp hi.1 (by omega), cv_cast hi.1]
  exact kk1
theorem w_aald (C : MC g p s m args meth cd own cc nL ret) {r i : Int} (hk : kd σ r = 105 ∨ kd σ r = 106) (hi : 0 ≤ i ∧ i < ln σ r) (hd : decode cc pc = .ok (.aaload, 1)) (kk : WW g p l e s m args below meth cd nL lv mc ms Q (pc + 1) ls (vr (aR σ r i) :: st) σ k) : WW g p l e s m args below meth cd nL lv mc ms Q pc ls (vi i :: vr r :: st) σ k := fun H locs la h1 h2 h3 h4 h5 => by
  have kk1 := kk H locs la h1 h2 h3 h4 h5
  have hr0 := (h1.2.1.2.1 r (by omega)).1
  have hlen := h1.2.1.2.2.1 r
  show W p l e (rmOf lv mc ms) s m args below meth cd H locs k.1 k.2 Q (F0 m pc la (.int (c32 i) :: va_rf (rv g r) :: st.map (cv g)))
  rw [rv_ne hr0]
  rcases hk with hk | hk
  · have hat := h1.1.arr hk (by decide) (h1.2.1.posA hk (by omega))
    rw [aval_ref (by decide)] at hat
    refine va_aldq C.hx C.hb C.hK (one_P hat) 0 4 rfl rfl (c32_in hi.1 (by omega) (by omega)) hd ?_
    rw [c32_clamp hi.1 (by omega), cv_cast hi.1]
    exact kk1
  · have hat := h1.1.arr hk (by decide) (h1.2.1.pos hk (by decide) (by decide)).1
    rw [aval_ref (by decide)] at hat
    refine va_aldq C.hx C.hb C.hK (one_P hat) 0 5 rfl rfl (c32_in hi.1 (by omega) (by omega)) hd ?_
    rw [c32_clamp hi.1 (by omega), cv_cast hi.1]
    exact kk1
theorem w_aaldJ (C : MC g p s m args meth cd own cc nL ret) {r i : Int} (hk : kd σ r = 107) (hi : 0 ≤ i ∧ i < ln σ r) (hd : decode cc pc = .ok (.aaload, 1)) (kk : WW g p l e s m args below meth cd nL lv mc ms Q (pc + 1) ls (vr (aR σ r i) :: st) σ k) : WW g p l e s m args below meth cd nL lv mc ms Q pc ls (vi i :: vr r :: st) σ k := fun H locs la h1 h2 h3 h4 h5 => by
  have kk1 := kk H locs la h1 h2 h3 h4 h5
  have hr0 := (h1.2.1.2.1 r (by omega)).1
  have hlen := h1.2.1.2.2.1 r
  show W p l e (rmOf lv mc ms) s m args below meth cd H locs k.1 k.2 Q (F0 m pc la (.int (c32 i) :: va_rf (rv g r) :: st.map (cv g)))
  rw [rv_ne hr0]
  have hat := h1.1.arr hk (by decide) (h1.2.1.pos hk (by decide) (by decide)).1
  rw [aval_ref (by decide)] at hat
  have hin : vp_in (c32 i) (ln σ r).toNat := c32_in hi.1 (by omega) (by omega)
  have hlt : (c32 i).toNatClampNeg < (ln σ r).toNat := Nat.not_le.mp fun q => hin (Or.inr q)
  refine W.aald C.hx C.hb hat ((C.hK.2 6 _ rfl).1 (ln σ r).toNat _) rfl (fun q => by cases q) (by show ¬ (c32 i < 0 ∨ (arrV _ _ _).slots.size ≤ _); rw [arrV_size]; exact hin) (v := va_rf (rv g (aR σ r i))) ?_ rfl rfl hd kk1
  show (arrV _ _ _).slots[_]? = _
  rw [arrV_read _ _ hlt, c32_clamp hi.1 (by omega)]
  show some (va_rf (rv g (aR σ r (i.toNat : Int)))) = _
  rw [cv_cast hi.1]
theorem w_bald (C : MC g p s m args meth cd own cc nL ret) {r i : Int} (hk : kd σ r = 21) (hi : 0 ≤ i ∧ i < ln σ r) (hd : decode cc pc = .ok (.baload, 1)) (kk : WW g p l e s m args below meth cd nL lv mc ms Q (pc + 1) ls (vi (aI σ r i) :: st) σ k) : WW g p l e s m args below meth cd nL lv mc ms Q pc ls (vi i :: vr r :: st) σ k := fun H locs la h1 h2 h3 h4 h5 => by
  have kk1 := kk H locs la h1 h2 h3 h4 h5
  have hr0 := (h1.2.1.2.1 r (by omega)).1
  have hlen := h1.2.1.2.2.1 r
  show W p l e (rmOf lv mc ms) s m args below meth cd H locs k.1 k.2 Q (F0 m pc la (.int (c32 i) :: va_rf (rv g r) :: st.map (cv g)))
  rw [rv_ne hr0]
  obtain ⟨cell, q1, q2, q3, q4, q5, q6, q7⟩ := h1.2.2.2.2.1.1 r hk
  have hcl : (c32 i).toNatClampNeg = i.toNat := c32_clamp hi.1 (by omega)
  have hneg : ¬ c32 i < 0 := by rw [z_lt, wI_id (by omega) (by omega)]; show ¬ i < wI 0; unfold wI; omega
  refine W.bald C.hx C.hb q1 q2 q3 (fun h => by rcases h with h | h; exact hneg h; rw [hcl] at h; omega) (v := .int (c32 (aI σ r i))) ?_ rfl rfl hd kk1
  rw [hcl, q6 _ (by omega)]
  show some (Value.int (c32 (aI σ r (i.toNat : Int)))) = _
  rw [cv_cast hi.1]
theorem w_alen (C : MC g p s m args meth cd own cc nL ret) {r : Int} (hk : 101 ≤ kd σ r ∨ kd σ r = 21) (hd : decode cc pc = .ok (.arraylength, 1)) (kk : WW g p l e s m args below meth cd nL lv mc ms Q (pc + 1) ls (vi (ln σ r) :: st) σ k) : WW g p l e s m args below meth cd nL lv mc ms Q pc ls (vr r :: st) σ k := fun H locs la h1 h2 h3 h4 h5 => by
  have kk1 := kk H locs la h1 h2 h3 h4 h5
  have hr0 := (h1.2.1.2.1 r (by omega)).1
  have hrange := (h1.2.1.2.1 r (by omega)).2.2.1
  have hlen := h1.2.1.2.2.1 r
  show W p l e (rmOf lv mc ms) s m args below meth cd H locs k.1 k.2 Q (F0 m pc la (va_rf (rv g r) :: st.map (cv g)))
  rw [rv_ne hr0]
  have hn : Int32.ofNat (ln σ r).toNat = c32 (ln σ r) := by
    show nI _ = _
    apply Int32.toInt_inj.mp
    rw [nI_toInt (by omega), c32_toInt, wI_id (by omega) (by omega), cv_cast hlen.1]
  rcases hk with hk | hk
  · obtain ⟨κ, hκ⟩ : ∃ κ, kd σ r = κ := ⟨_, rfl⟩
    rw [hκ] at hk hrange
    by_cases hrp : 0 < r
    case neg =>
      have hz := (h1.2.1.2.1 r (by omega)).2.2.2.2 (by omega)
      have hz2 : kd σ r = 105 ∨ kd σ r = 108 := by omega
      rcases hz2 with hz2 | hz2
      · obtain ⟨cell, q1, q2, q3, q4, q5, q6, q7⟩ := (h1.2.2.2.2.1.2.1 r (by omega) hz2).2
        exact W.alen C.hx C.hb q1 q2 (q5.trans hn) rfl rfl hd kk1
      · obtain ⟨cell, q1, q2, q3, q4, q5, q6, q7⟩ := h1.2.2.2.2.1.2.2 r hz2
        exact W.alen C.hx C.hb q1 q2 (q5.trans hn) rfl rfl hd kk1
    have hat := h1.1.arr hκ (by omega) hrp
    have hx1 : (aval g σ κ r).1 = (ln σ r).toNat := rfl
    have : κ = 101 ∨ κ = 102 ∨ κ = 103 ∨ κ = 104 ∨ κ = 105 ∨ κ = 106 ∨ κ = 107 ∨ κ = 108 := by omega
    rcases this with h | h | h | h | h | h | h | h <;> subst h
    · exact va_alen C.hx C.hb C.hK (one_P hat) 0 0 rfl rfl hn hd kk1
    · exact va_alen C.hx C.hb C.hK (one_P hat) 0 1 rfl rfl hn hd kk1
    · exact va_alen C.hx C.hb C.hK (one_P hat) 0 2 rfl rfl hn hd kk1
    · exact va_alen C.hx C.hb C.hK (one_P hat) 0 3 rfl rfl hn hd kk1
    · exact va_alen C.hx C.hb C.hK (one_P hat) 0 4 rfl rfl hn hd kk1
    · exact va_alen C.hx C.hb C.hK (one_P hat) 0 5 rfl rfl hn hd kk1
    · exact va_alen C.hx C.hb C.hK (one_P hat) 0 6 rfl rfl hn hd kk1
    · exact va_alen C.hx C.hb C.hK (one_P hat) 0 7 rfl rfl hn hd kk1
  · obtain ⟨cell, q1, q2, q3, q4, q5, q6, q7⟩ := h1.2.2.2.2.1.1 r hk
    exact W.alen C.hx C.hb q1 q2 (q5.trans hn) rfl rfl hd kk1
theorem cel_q_ne {g : GG} {σ σ' : Hp} {q : Int} (h1 : kd σ' = kd σ) (h2 : ln σ' = ln σ) (h3 : fI σ' = fI σ) (h4 : fL σ' = fL σ) (h5 : fR σ' = fR σ) (h6 : aI σ' q = aI σ q) (h7 : aL σ' q = aL σ q) (h8 : aR σ' q = aR σ q) : cel g σ' q = cel g σ q := by
  unfold cel aval flds fval
  rw [h1, h2, h3, h4, h5, h6, h7, h8]
theorem Wf.q {σ σ' : Hp} (w : Wf σ) {r : Int} (h0 : nx σ' = nx σ) (h1 : kd σ' = kd σ) (h2 : ln σ' = ln σ) (h3 : fI σ' = fI σ) (h4 : fL σ' = fL σ) (h5 : fR σ' = fR σ) (h6 : ∀ q, q ≠ r → aI σ' q = aI σ q ∧ aL σ' q = aL σ q ∧ aR σ' q = aR σ q) (hr : r < nx σ) : Wf σ' := by
  unfold Wf
  rw [h0, h1, h2, h3, h4, h5]
  refine ⟨w.1, w.2.1, w.2.2.1, fun q hq => ?_⟩
  obtain ⟨a1, a2, a3⟩ := h6 q (by omega)
  rw [a1, a2, a3]
  exact w.2.2.2 q hq
theorem Str.q {g : GG} {U : State} {σ σ' : Hp} {H : Heap} (h : Str g U σ H) {r : Int} (h1 : kd σ' = kd σ) (h2 : ln σ' = ln σ) (h3 : fI σ' = fI σ) (h5 : fR σ' = fR σ) (h6 : ∀ q, q ≠ r → aI σ' q = aI σ q) (hk : kd σ r ≠ 21 ∧ kd σ r ≠ 108) : Str g U σ' H := by
  unfold Str StrB
  rw [h1, h2, h3, h5]
  refine ⟨h.1, ⟨fun q hq => ?_, h.2.1.2.1, fun q hq => ?_⟩, h.2.2⟩
  · rw [h6 q (fun e => hk.1 (by rw [← e]; exact hq))]
    exact h.2.1.1 q hq
  · rw [h6 q (fun e => hk.2 (by rw [← e]; exact hq))]
    exact h.2.1.2.2 q hq
theorem ua_ne {α : Type} (f : Int → Int → α) {r q : Int} (j : Int) (v : α) (h : q ≠ r) : ua f r j v q = f q := funext fun i => if_neg (fun z => h z.1)
theorem w_iast (C : MC g p s m args meth cd own cc nL ret) {r i : Int} {v : Int} (hk : kd σ r = 101) (hi : 0 ≤ i ∧ i < ln σ r) (hd : decode cc pc = .ok (.iastore, 1)) (kk : WW g p l e s m args below meth cd nL lv mc ms Q (pc + 1) ls st (qI σ r i v) k) : WW g p l e s m args below meth cd nL lv mc ms Q pc ls (vi v :: vi i :: vr r :: st) σ k := fun H locs la h1 h2 h3 h4 h5 => by
  obtain ⟨hr0, hrn⟩ := h1.2.1.pos hk (by decide) (by decide)
  have hlen := h1.2.1.2.2.1 r
  show W p l e (rmOf lv mc ms) s m args below meth cd H locs k.1 k.2 Q (F0 m pc la (cv g (vi v) :: .int (c32 i) :: va_rf (rv g r) :: st.map (cv g)))
  rw [rv_ne (by omega)]
  have hat := h1.1.arr hk (by decide) hr0
  rw [aval_int (by decide)] at hat
  have hin : vp_in (c32 i) (ln σ r).toNat := c32_in hi.1 (by omega) (by omega)
  refine W.iast C.hx C.hb hat ((C.hK.2 0 _ rfl).1 (ln σ r).toNat _) (fun q => by cases q) (by show ¬ (c32 i < 0 ∨ (arrV _ _ _).slots.size ≤ _); rw [arrV_size]; exact hin) rfl rfl hd fun H1 a1 a2 a3 => ?_
  have hA : AF g (ad g r) := by rw [ad_pos g hr0]; exact Nat.le_add_right _ _
  have hS2 := h2.put (k := (c32 i).toNatClampNeg) a2 a3 hA
  have hne : ∀ q : Int, q ≠ r → aI (qI σ r i v) q = aI σ q := fun q hq => ua_ne _ _ _ hq
  refine kk H1 _ la ⟨h1.1.put (σ' := qI σ r i v) h1.2.1 C.hX hr0 rfl (fun q hq => cel_q_ne rfl rfl rfl rfl rfl (hne q hq) rfl rfl) ?_ a3, h1.2.1.q (r := r) rfl rfl rfl rfl rfl rfl (fun q hq => ⟨hne q hq, rfl, rfl⟩) hrn, by rw [a2]; exact h1.2.2.1, ?_⟩ hS2 h3 h4 h5
  · rw [cel_arr (σ := qI σ r i v) (κ := 101) hk (by decide), aval_int (by decide)]
    show H1[ad g r]? = some (vp_cell _ _)
    rw [a1]
    show some ((arrV _ _ _).setSlot _ _) = _
    rw [arrV_store]
    show some (arrV (gA g 101) (ln σ r).toNat (updV _ _ _)) = some (arrV (gA g 101) (ln σ r).toNat (fun j => .int (c32 (aI (qI σ r i v) r j))))
    congr 2
    funext q
    rw [c32_clamp hi.1 (by omega)]
    unfold updV
    by_cases hq : q = i.toNat
    · rw [if_pos hq]
      have hq2 : (q : Int) = i := by omega
      rw [hq2, show aI (qI σ r i v) r i = v from if_pos ⟨rfl, rfl⟩]
    · rw [if_neg hq, show aI (qI σ r i v) r q = aI σ r q from if_neg (by omega)]
  · refine (h1.2.2.2.q (σ' := qI σ r i v) (r := r) rfl rfl rfl rfl hne (by omega)).kept fun q hq hA2 => a3 q ?_
    intro e
    exact hA2 (by rw [e]; exact hA)
theorem w_zast (C : MC g p s m args meth cd own cc nL ret) {r i : Int} {v : Int} (hk : kd σ r = 103) (hi : 0 ≤ i ∧ i < ln σ r) (hv : v = 0 ∨ v = 1) (hd : decode cc pc = .ok (.bastore, 1)) (kk : WW g p l e s m args below meth cd nL lv mc ms Q (pc + 1) ls st (qI σ r i v) k) : WW g p l e s m args below meth cd nL lv mc ms Q pc ls (vi v :: vi i :: vr r :: st) σ k := fun H locs la h1 h2 h3 h4 h5 => by
  obtain ⟨hr0, hrn⟩ := h1.2.1.pos hk (by decide) (by decide)
  have hlen := h1.2.1.2.2.1 r
  show W p l e (rmOf lv mc ms) s m args below meth cd H locs k.1 k.2 Q (F0 m pc la (cv g (vi v) :: .int (c32 i) :: va_rf (rv g r) :: st.map (cv g)))
  rw [rv_ne (by omega)]
  have hat := h1.1.arr hk (by decide) hr0
  rw [aval_int (by decide)] at hat
  have hin : vp_in (c32 i) (ln σ r).toNat := c32_in hi.1 (by omega) (by omega)
  refine W.zast C.hx C.hb hat ((C.hK.2 2 _ rfl).1 (ln σ r).toNat _) (fun q => by cases q) (by show ¬ (c32 i < 0 ∨ (arrV _ _ _).slots.size ≤ _); rw [arrV_size]; exact hin) rfl rfl hd fun H1 a1 a2 a3 => ?_
  have hA : AF g (ad g r) := by rw [ad_pos g hr0]; exact Nat.le_add_right _ _
  have hS2 := h2.put (k := (c32 i).toNatClampNeg) a2 a3 hA
  have hne : ∀ q : Int, q ≠ r → aI (qI σ r i v) q = aI σ q := fun q hq => ua_ne _ _ _ hq
  refine kk H1 _ la ⟨h1.1.put (σ' := qI σ r i v) h1.2.1 C.hX hr0 rfl (fun q hq => cel_q_ne rfl rfl rfl rfl rfl (hne q hq) rfl rfl) ?_ a3, h1.2.1.q (r := r) rfl rfl rfl rfl rfl rfl (fun q hq => ⟨hne q hq, rfl, rfl⟩) hrn, by rw [a2]; exact h1.2.2.1, ?_⟩ hS2 h3 h4 h5
  · rw [cel_arr (σ := qI σ r i v) (κ := 103) hk (by decide), aval_int (by decide)]
    show H1[ad g r]? = some (vp_cell _ _)
    rw [a1]
    show some ((arrV _ _ _).setSlot _ _) = _
    rw [arrV_store]
    show some (arrV (gA g 103) (ln σ r).toNat (updV _ _ _)) = some (arrV (gA g 103) (ln σ r).toNat (fun j => .int (c32 (aI (qI σ r i v) r j))))
    congr 2
    funext q
    rw [c32_clamp hi.1 (by omega)]
    unfold updV
    by_cases hq : q = i.toNat
    · rw [if_pos hq]
      have hq2 : (q : Int) = i := by omega
      rw [hq2, show aI (qI σ r i v) r i = v from if_pos ⟨rfl, rfl⟩]
      rcases hv with rfl | rfl <;> rfl
    · rw [if_neg hq, show aI (qI σ r i v) r q = aI σ r q from if_neg (by omega)]
  · refine (h1.2.2.2.q (σ' := qI σ r i v) (r := r) rfl rfl rfl rfl hne (by omega)).kept fun q hq hA2 => a3 q ?_
    intro e
    exact hA2 (by rw [e]; exact hA)
theorem w_cast (C : MC g p s m args meth cd own cc nL ret) {r i : Int} {v : Int} (hk : kd σ r = 104) (hi : 0 ≤ i ∧ i < ln σ r) (hv : 0 ≤ v ∧ v < 65536) (hd : decode cc pc = .ok (.castore, 1)) (kk : WW g p l e s m args below meth cd nL lv mc ms Q (pc + 1) ls st (qI σ r i v) k) : WW g p l e s m args below meth cd nL lv mc ms Q pc ls (vi v :: vi i :: vr r :: st) σ k := fun H locs la h1 h2 h3 h4 h5 => by
  obtain ⟨hr0, hrn⟩ := h1.2.1.pos hk (by decide) (by decide)
  have hlen := h1.2.1.2.2.1 r
  show W p l e (rmOf lv mc ms) s m args below meth cd H locs k.1 k.2 Q (F0 m pc la (cv g (vi v) :: .int (c32 i) :: va_rf (rv g r) :: st.map (cv g)))
  rw [rv_ne (by omega)]
  have hat := h1.1.arr hk (by decide) hr0
  rw [aval_int (by decide)] at hat
  have hin : vp_in (c32 i) (ln σ r).toNat := c32_in hi.1 (by omega) (by omega)
  refine W.cast C.hx C.hb hat ((C.hK.2 3 _ rfl).1 (ln σ r).toNat _) (fun q => by cases q) (by show ¬ (c32 i < 0 ∨ (arrV _ _ _).slots.size ≤ _); rw [arrV_size]; exact hin) rfl rfl hd fun H1 a1 a2 a3 => ?_
  have hA : AF g (ad g r) := by rw [ad_pos g hr0]; exact Nat.le_add_right _ _
  have hS2 := h2.put (k := (c32 i).toNatClampNeg) a2 a3 hA
  have hne : ∀ q : Int, q ≠ r → aI (qI σ r i v) q = aI σ q := fun q hq => ua_ne _ _ _ hq
  refine kk H1 _ la ⟨h1.1.put (σ' := qI σ r i v) h1.2.1 C.hX hr0 rfl (fun q hq => cel_q_ne rfl rfl rfl rfl rfl (hne q hq) rfl rfl) ?_ a3, h1.2.1.q (r := r) rfl rfl rfl rfl rfl rfl (fun q hq => ⟨hne q hq, rfl, rfl⟩) hrn, by rw [a2]; exact h1.2.2.1, ?_⟩ hS2 h3 h4 h5
  · rw [cel_arr (σ := qI σ r i v) (κ := 104) hk (by decide), aval_int (by decide)]
    show H1[ad g r]? = some (vp_cell _ _)
    rw [a1]
    show some ((arrV _ _ _).setSlot _ _) = _
    rw [arrV_store]
    show some (arrV (gA g 104) (ln σ r).toNat (updV _ _ _)) = some (arrV (gA g 104) (ln σ r).toNat (fun j => .int (c32 (aI (qI σ r i v) r j))))
    congr 2
    funext q
    rw [c32_clamp hi.1 (by omega)]
    unfold updV
    by_cases hq : q = i.toNat
    · rw [if_pos hq]
      have hq2 : (q : Int) = i := by omega
      rw [hq2, show aI (qI σ r i v) r i = v from if_pos ⟨rfl, rfl⟩]
      exact nar_c hv
    · rw [if_neg hq, show aI (qI σ r i v) r q = aI σ r q from if_neg (by omega)]
  · refine (h1.2.2.2.q (σ' := qI σ r i v) (r := r) rfl rfl rfl rfl hne (by omega)).kept fun q hq hA2 => a3 q ?_
    intro e
    exact hA2 (by rw [e]; exact hA)
theorem w_last (C : MC g p s m args meth cd own cc nL ret) {r i : Int} {v : BitVec 64} (hk : kd σ r = 102) (hi : 0 ≤ i ∧ i < ln σ r) (hd : decode cc pc = .ok (.lastore, 1)) (kk : WW g p l e s m args below meth cd nL lv mc ms Q (pc + 1) ls st (qL σ r i v) k) : WW g p l e s m args below meth cd nL lv mc ms Q pc ls (vl v :: vi i :: vr r :: st) σ k := fun H locs la h1 h2 h3 h4 h5 => by
  obtain ⟨hr0, hrn⟩ := h1.2.1.pos hk (by decide) (by decide)
  have hlen := h1.2.1.2.2.1 r
  show W p l e (rmOf lv mc ms) s m args below meth cd H locs k.1 k.2 Q (F0 m pc la (cv g (vl v) :: .int (c32 i) :: va_rf (rv g r) :: st.map (cv g)))
  rw [rv_ne (by omega)]
  have hat := h1.1.arr hk (by decide) hr0
  rw [aval_long] at hat
  have hin : vp_in (c32 i) (ln σ r).toNat := c32_in hi.1 (by omega) (by omega)
  refine W.last C.hx C.hb hat ((C.hK.2 1 _ rfl).1 (ln σ r).toNat _) (fun q => by cases q) (by show ¬ (c32 i < 0 ∨ (arrV _ _ _).slots.size ≤ _); rw [arrV_size]; exact hin) rfl rfl hd fun H1 a1 a2 a3 => ?_
  have hA : AF g (ad g r) := by rw [ad_pos g hr0]; exact Nat.le_add_right _ _
  have hS2 := h2.put (k := (c32 i).toNatClampNeg) a2 a3 hA
  have hne : ∀ q : Int, q ≠ r → aL (qL σ r i v) q = aL σ q := fun q hq => ua_ne _ _ _ hq
  refine kk H1 _ la ⟨h1.1.put (σ' := qL σ r i v) h1.2.1 C.hX hr0 rfl (fun q hq => cel_q_ne rfl rfl rfl rfl rfl rfl (hne q hq) rfl) ?_ a3, h1.2.1.q (r := r) rfl rfl rfl rfl rfl rfl (fun q hq => ⟨rfl, hne q hq, rfl⟩) hrn, by rw [a2]; exact h1.2.2.1, ?_⟩ hS2 h3 h4 h5
  · rw [cel_arr (σ := qL σ r i v) (κ := 102) hk (by decide), aval_long]
    show H1[ad g r]? = some (vp_cell _ _)
    rw [a1]
    show some ((arrV _ _ _).setSlot _ _) = _
    rw [arrV_store]
    show some (arrV (gA g 102) (ln σ r).toNat (updV _ _ _)) = some (arrV (gA g 102) (ln σ r).toNat (fun j => .long (c64 (aL (qL σ r i v) r j))))
    congr 2
    funext q
    rw [c32_clamp hi.1 (by omega)]
    unfold updV
    by_cases hq : q = i.toNat
    · rw [if_pos hq]
      have hq2 : (q : Int) = i := by omega
      rw [hq2, show aL (qL σ r i v) r i = v from if_pos ⟨rfl, rfl⟩]
    · rw [if_neg hq, show aL (qL σ r i v) r q = aL σ r q from if_neg (by omega)]
  · refine (h1.2.2.2.q (σ' := qL σ r i v) (r := r) rfl rfl rfl rfl (fun _ _ => rfl) (by omega)).kept fun q hq hA2 => a3 q ?_
    intro e
    exact hA2 (by rw [e]; exact hA)
end RW3

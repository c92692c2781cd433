/-! look: the class's throws, the law's own catches -/

abbrev nse : String := "java/util/NoSuchElementException"
abbrev nsN : List String := ["java/lang/RuntimeException", "java/lang/Exception"]
def thW : List Cond := Cond.classLink RX11 288 nse :: Cond.initialized nse :: vx_at0 RX11 290 nse nsN
theorem thW_ok : thW.all (fun w => decide (w ∈ lw_tbl) && (goodWord w || xword w)) = true := by decide +kernel
theorem thW_ot : thW.all vx_ot = true := by decide +kernel
/-- Throwable's two statics lie ahead of what is made -/
def ThS (g : GG) (s : State) : Prop := vx_Zq Bundle.tN "UNASSIGNED_STACK" Bundle.steD (AF g) s s.heap ∧ vx_Zq Bundle.tN "SUPPRESSED_SENTINEL" Bundle.listD (AF g) s s.heap
theorem ThS.at {g : GG} {s U : State} {H : Heap} {locs : List Loc} (h : ThS g s) (h2 : va_S (AF g) s.heap H locs) (hU : U.heap = H) (hW : s.WarmedH U.vm) : ThS g U := by
  unfold ThS
  rw [hU]
  exact ⟨vx_Zq.moved hW.alike (h.1.kept h2.2.1), vx_Zq.moved hW.alike (h.2.kept h2.2.1)⟩
def lkP (g : GG) (av : List AV) (σ : Hp) : Array Value → State → Prop := fun a s => va_Pc (av.map (cv g)) (InS g σ) a s ∧ ThS g s
theorem lkP_blind (g : GG) (av : List AV) (σ : Hp) : FrameBlind (lkP g av σ) := fun a U g9 mk q => ⟨blind g av σ a U g9 mk q.1, vx_Zq.moved (u := U) (U := U.calling g9 mk a) (Vm.Alike.refl U.vm) q.2.1, vx_Zq.moved (u := U) (U := U.calling g9 mk a) (Vm.Alike.refl U.vm) q.2.2⟩
def lkQ : Array Value → State → Outcome → State → Prop := va_Qi (fun (_ : Int32) (_ : Unit) => False) (fun _ _ => True) (fun _ => False)
def lkX (g : GG) (σ : Hp) : String → State → State → Prop := vx_X (S := Unit) (fun _ => True) (fun E _ t => E = nse ∧ ∃ d, HB g t (jk σ d) t.heap) (AF g)
theorem ww_entry {g : GG} {p : Program} {l : Launch} {e : Env} {s : State} {m : MethodId} {below : List Frame} {meth : Method} {cd : Code} {nL lv mc ms : Nat} {Q : State → Prop} {av : List AV} {σ : Hp} (hlen : (argL1 av).length ≤ nL) (hB : HB g s σ s.heap) (hw : WW g p l e s m (av.map (cv g)).toArray below meth cd nL lv mc ms Q 0 (argL nL av) [] σ (0, 0)) : W p l e (rmOf lv mc ms) s m (av.map (cv g)).toArray below meth cd s.heap [] 0 0 Q (entryFrame m (av.map (cv g)).toArray nL) := by
  have hl9 := lv_entry (av.map (cv g)) (n := nL) (by rw [argL1_sl]; exact hlen)
  rw [lg_entry_eq]
  refine hw s.heap [] _ hB va_S.rf ⟨hl9.1, ?_, hl9.2.1, fun i v hi => ?_⟩ (Nat.zero_le _) (Nat.zero_le _)
  · unfold argL
    rw [List.length_append, List.length_replicate]
    omega
  · unfold argL at hi
    by_cases h : i < (argL1 av).length
    · rw [List.getElem?_append_left h] at hi
      have := argL1_at g av i 0 v hi
      rw [Nat.zero_add] at this
      exact hl9.2.2 _ this
    · rw [List.getElem?_append_right (by omega)] at hi
      have := List.eq_of_mem_replicate (List.mem_of_getElem? hi)
      cases this
section LKT
variable {g : GG} {p : Program} {l : Launch} {e : Env} {s : State} {m : MethodId} {args : Array Value} {below : List Frame} {meth : Method} {c : Code}
/-- new; dup; init; athrow, in the class's look -/
theorem look_throw (C : MC g p s m args meth c RX11 cX11_look 4 (some .int)) (hl : l.stackTraces = false) (hth : ThS g s) (ht : ∀ x ∈ c.exceptionTable.toList, False) {σ : Hp} {pc : Nat} {ls : List (Option AV)} (d0 : decode cX11_look pc = .ok (.new 288, 3)) (d3 : decode cX11_look (pc + 3) = .ok (.dup, 1)) (d4 : decode cX11_look (pc + 4) = .ok (.invokespecial 290, 3)) (d7 : decode cX11_look (pc + 7) = .ok (.athrow, 1)) : WW g p l e s m args below meth c 4 6 1 6 (vx_MQ below lkQ (lkX g σ) args s 1 6 (AF g)) pc ls [] σ (0, 0) := by
  intro H locs la h1 h2 h3 h4 h5
  have hw : ∀ w ∈ thW, w.before args s = true := fun w hw => by
    have h := List.all_eq_true.mp thW_ok w hw
    have ho := List.all_eq_true.mp thW_ot w hw
    simp only [Bool.and_eq_true, Bool.or_eq_true, decide_eq_true_eq] at h
    rcases h.2 with q | q
    · exact C.hts w (List.mem_filter.mpr ⟨h.1, q⟩)
    · exact vx_ot_at (State.WarmedH.refl s) rfl ho (C.hE w (List.mem_filter.mpr ⟨h.1, q⟩))
  refine vx_throw0 (names := nsN) (cls := nse) (own := RX11) (ik := 288) (ic := 290) (A := AF g) C.hx C.hb hl C.hown (by decide +kernel) (by decide +kernel) (hw _ List.mem_cons_self) (hw _ (List.mem_cons_of_mem _ List.mem_cons_self)) (fun w h => hw w (List.mem_cons_of_mem _ (List.mem_cons_of_mem _ h))) (fun w h => List.all_eq_true.mp thW_ot w h) hth.1 hth.2 h2 (h3.1.trans C.hml.symm) d0 d3 d4 d7 (fun x hx => (ht x hx).elim) (Nat.le_of_ble_eq_true rfl) (Nat.le_of_ble_eq_true rfl) (Nat.le_of_ble_eq_true rfl) (Nat.le_of_ble_eq_true rfl) C.hlk ?_ h2.2.2 (by decide) (by decide)
  intro t ha hs hq
  refine ⟨(), trivial, ⟨rfl, t.heap.size - H.size, HB_jk (h1.moved ha) hq (by omega)⟩, Nat.le_trans h2.1 hs, fun q q1 q2 => ?_⟩
  rw [hq q (Nat.lt_of_lt_of_le q1 h2.1)]
  exact h2.2.1 q q1 q2
end LKT
/-- no box, or no such question: it throws -/
theorem look_bad {l : Launch} {g : GG} {σ τ : Hp} {x w : Int} (hl : l.stackTraces = false) (hk : kd σ 1 = 12) (hC : CLay σ) (hx : inR x) (hw : inR w) (hX : BX σ τ) (hbad : ¬ ((0 ≤ x ∧ x < fI τ 1302 61) ∧ 0 ≤ w ∧ w ≤ 8)) : vx_Met l yX11_look (wsOf yX11_look cX11_look 4 (some .int)) (rmOf 6 1 6) (lkP g [vr 1, vi x, vi w] σ) lkQ (lkX g σ) 1 6 (AF g) := by
  refine vx_ofW (cc := cX11_look) (maxL := 4) (ret := some .int) (by decide +kernel) rfl ?_
  intro p e s m args below meth c s₁ B hml ht hv
  obtain ⟨⟨rfl, hB, hK, hE, hSx, hb, hgx⟩, hth⟩ := hv
  have hts := atoms_spec (ws := wsOf yX11_look cX11_look 4 (some .int)) B.pre
  have hown : s.vm.findClass RX11 = some m.cls := findClass_of_methodNamed B.named
  have C : MC g p s m (List.map (cv g) [vr 1, vi x, vi w]).toArray meth c RX11 cX11_look 4 (some .int) := ⟨B.exec, B.bytes, hml, B.returns, B.notSynchronized, hown, fun w hw => hts w (List.mem_cons_of_mem _ hw), hK, hE, hSx, hb, hgx⟩
  refine ww_entry (Nat.le_of_ble_eq_true rfl) hB ?_
  show WW g p l e s m _ below meth c 4 6 1 6 _ 0 [some (vr 1), some (vi x), some (vi w), none] [] σ (0, 0)
  refine w_aload_n C (n := 0) (x := 1) rfl (by decide +kernel) ?_
  refine w_iload_n C (n := 1) (x := x) rfl (by decide +kernel) ?_
  have hrow := rw_X11_976 g p l e s m (List.map (cv g) [vr 1, vi x, vi w]).toArray below meth c 4 6 1 6 (vx_MQ below lkQ (lkX g σ) (List.map (cv g) [vr 1, vi x, vi w]).toArray s 1 6 (AF g)) cX11_look (some .int) 2 [some (vr 1), some (vi x), some (vi w), none] [vr 1, vi x] [] σ (0, 0) (fun r σ' => r = some (vr (if 0 ≤ x ∧ x < fI σ 1402 3 then lat σ 3 x else 0)) ∧ σ' = σ) C rfl (by decide) (by decide) (by decide) (by decide) (by decide +kernel) (by
    rw [us_X11_boxOf]
    exact ⟨hk, rfl, hC, hX.1, hx, rfl, rfl⟩)
  refine hrow fun r σ' hr => ?_
  obtain ⟨rfl, rfl⟩ := hr
  show WW g p l e s m _ below meth c 4 6 1 6 _ 5 [some (vr 1), some (vi x), some (vi w), none] [vr (if 0 ≤ x ∧ x < fI σ' 1402 3 then lat σ' 3 x else 0)] σ' (0, 0)
  refine w_astore_n C (n := 3) (by decide) (by decide +kernel) ?_
  refine w_aload_n C (n := 3) (x := if 0 ≤ x ∧ x < fI σ' 1402 3 then lat σ' 3 x else 0) rfl (by decide +kernel) ?_
  refine w_ifnonnull C (off := 11) (tgt := 18) rfl (by decide +kernel) (fun hn => ?_) (fun hn => ?_)
  · have c1 : 0 ≤ x ∧ x < fI τ 1302 61 := by
      by_cases q : 0 ≤ x ∧ x < fI σ' 1402 3
      · rw [hX.2.1] at q
        exact q
      · rw [if_neg q] at hn
        exact absurd rfl hn
    have c2 : ¬ (0 ≤ w ∧ w ≤ 8) := fun q => hbad ⟨c1, q⟩
    refine w_iload_n C (n := 2) (x := w) rfl (by decide +kernel) ?_
    intro H locs la a1 a2 a3 a4 a5
    show W p l e (rmOf 6 1 6) s m _ below meth c H locs 0 0 _ (F0 m 19 la (.int (c32 w) :: List.map (cv g) []))
    have h126 := look_throw (p := p) (e := e) (below := below) (ls := stL [some (vr 1), some (vi x), some (vi w), none] 3 (vr (if 0 ≤ x ∧ x < fI σ' 1402 3 then lat σ' 3 x else 0))) (pc := 126) C hl hth ht (σ := σ') (by decide +kernel) (by decide +kernel) (by decide +kernel) (by decide +kernel)
    exact lv_tableOut C.hx C.hb (dflt := 107) (lo := 0) (hi := 8) (offs := #[49, 54, 59, 64, 69, 78, 92, 97, 102]) (len := 49) (by decide +kernel) (by rw [c32_toInt, wI_id hw.1 hw.2]; omega) (tgt := 126) rfl (h126 H locs la a1 a2 a3 a4 a5)
  · exact look_throw C hl hth ht (by decide +kernel) (by decide +kernel) (by decide +kernel) (by decide +kernel)
theorem rw_L_56 : Row RL (.invokevirtual 7) 3 3 0 0 5 sp_X11_look := row_V (n := 2) (ci := 11) c_X11_look ⟨TBL_in 1423 (by decide +kernel) rfl, TBL_in 1426 (by decide +kernel) rfl, TBL_in 111 (by decide +kernel) rfl, by decide +kernel, by decide⟩ (by decide) rfl (TBL_in 1424 (by decide +kernel) rfl) (TBL_in 1425 (by decide +kernel) rfl) rc_X11_look
abbrev lkT : List (Nat × Nat × Nat × Nat) := [(0, 10, 13, 13)]
def wsLk : List Cond := Cond.codeWith yL_look cL_look 5 (some .int) lkT :: TBL
theorem wsLk_in : Cond.codeWith yL_look cL_look 5 (some .int) lkT ∈ TBL := TBL_in 1421 (by decide +kernel) rfl
theorem wsLk_good : GoodIn TBL wsLk := fun w hw => by
  have h1 : w ∈ TBL := by
    rcases List.mem_cons.mp hw with h | h
    · rw [h]
      exact wsLk_in
    · exact h
  exact ⟨h1, good_of_word (TBL_good h1)⟩
/-- what the class's look needs -/
def lkF (σ : Hp) : Prop := CLay σ ∧ fI σ 1210 1 = fI σ 1301 61 ∧ BX σ σ ∧ (∀ l, 0 ≤ l → l < 4 → LR l σ σ) ∧ MT σ ∧ RB σ
/-- the law's own look: 0 and the answer in out, or 1 -/
theorem met_look {l : Launch} {g : GG} {σ : Hp} {x w : Int} {QQ : Option AV → Hp → Prop} (hl : l.stackTraces = false) (hf : lkF σ) (hx : inR x) (hw : inR w) (ho : kd σ 120 = 102 ∧ ln σ 120 = 1) (q1 : ((0 ≤ x ∧ x < fI σ 1302 61) ∧ 0 ≤ w ∧ w ≤ 8) → QQ (some (vi 0)) (qL σ 120 0 (BitVec.ofInt 64 (wI (mLk σ x w))))) (q2 : ¬ ((0 ≤ x ∧ x < fI σ 1302 61) ∧ 0 ≤ w ∧ w ≤ 8) → ∀ d, QQ (some (vi 1)) (jk σ d)) : Met l yL_look wsLk (rmOf 8 1 6) (lkP g [vr 1, vi x, vi w, vr 120] σ) (OutS g QQ) 1 6 (AF g) := by
  obtain ⟨hC, hnw, hX, hL, hM, hR⟩ := hf
  have hk : kd σ 1 = 12 := by simp only [hC.eqs]
  refine va_MetW (cc := cL_look) (maxL := 5) (ret := some .int) (hh := lkT) (by decide +kernel) rfl ?_
  intro p e s m args below meth c s₁ B hml hv
  obtain ⟨⟨rfl, hB, hK, hE, hSx, hb, hgx⟩, hth⟩ := hv
  have hts := atoms_spec (ws := wsLk) B.pre
  have hown : s.vm.findClass RL = some m.cls := findClass_of_methodNamed B.named
  have C : MC g p s m (List.map (cv g) [vr 1, vi x, vi w, vr 120]).toArray meth c RL cL_look 5 (some .int) := ⟨B.exec, B.bytes, hml, B.returns, B.notSynchronized, hown, fun w hw => hts w (List.mem_cons_of_mem _ hw), hK, hE, hSx, hb, hgx⟩
  have htab : c.exceptionTable.toList = [⟨0, 10, 13, 13⟩] := vx_table (x := yL_look) B (hts _ List.mem_cons_self)
  refine ww_entry (Nat.le_of_ble_eq_true rfl) hB ?_
  show WW g p l e s m _ below meth c 5 8 1 6 _ 0 [some (vr 1), some (vi x), some (vi w), some (vr 120), none] [] σ (0, 0)
  refine w_aload_n C (n := 3) (x := 120) rfl (by decide +kernel) ?_
  refine w_iconst C (n := 0) (by decide +kernel) ?_
  refine w_aload_n C (n := 0) (x := 1) rfl (by decide +kernel) ?_
  refine w_iload_n C (n := 1) (x := x) rfl (by decide +kernel) ?_
  refine w_iload_n C (n := 2) (x := w) rfl (by decide +kernel) ?_
  by_cases cc : (0 ≤ x ∧ x < fI σ 1302 61) ∧ 0 ≤ w ∧ w ≤ 8
  · have hrow := rw_L_56 g p l e s m (List.map (cv g) [vr 1, vi x, vi w, vr 120]).toArray below meth c 5 8 1 6 (MQ below (OutS g QQ) (List.map (cv g) [vr 1, vi x, vi w, vr 120]).toArray s 1 6 (AF g)) cL_look (some .int) 5 [some (vr 1), some (vi x), some (vi w), some (vr 120), none] [vr 1, vi x, vi w] [vi 0, vr 120] σ (0, 0) (fun r σ' => r = some (vi (mLk σ x w)) ∧ σ' = σ) C rfl (by decide) (by decide) (by decide) (by decide) (by decide +kernel) (by
      rw [us_X11_look]
      exact ⟨hk, rfl, hC, hx, cc.2, σ, hnw, hX, hL, hM, hR, cc.1, rfl, rfl⟩)
    refine hrow fun r σ' hr => ?_
    obtain ⟨rfl, rfl⟩ := hr
    show WW g p l e s m _ below meth c 5 8 1 6 _ 8 [some (vr 1), some (vi x), some (vi w), some (vr 120), none] [vi (mLk σ' x w), vi 0, vr 120] σ' (0, 0)
    refine w_i2l C (by decide +kernel) ?_
    refine w_last C ho.1 (by rw [ho.2]; decide) (by decide +kernel) ?_
    refine w_goto C (off := 7) (tgt := 17) rfl (by decide +kernel) ?_
    refine w_iconst C (n := 0) (by decide +kernel) ?_
    exact w_ireturn C trivial (q1 cc) (by decide +kernel)
  · intro H locs la h1 h2 h3 h4 h5
    have hM2 := look_bad (g := g) hl hk hC hx hw hX cc
    have hCB : CallB (rmOf 8 1 6) s (List.map (cv g) [vr 1, vi x, vi w, vr 120]).toArray RL 7 yX11_look cX11_look 4 (some .int) (wsOf yX11_look cX11_look 4 (some .int)) (rmOf 6 1 6) 1 6 2 := callB_of (Ts := TBL) 2 C.hts (wsOf_good (TBL_in 1426 (by decide +kernel) rfl)) rfl rfl rfl (C.hts _ (TBL_in 111 (by decide +kernel) rfl)) (C.hts _ (TBL_in 1423 (by decide +kernel) rfl)) (by decide +kernel) ⟨by decide, by decide⟩
    have hcell := recv_obj C.hK h1 (ci := 11) (by decide) (r := 1) hk
    have hrun := vx_runV (l := l) (e := e) (below := below) (meth := meth) (H := H) (locs := locs) (cells := 0) (slots := 0) (As := [Value.int (c32 x), Value.int (c32 w)]) (b := ad g 1) (C := RX11) (rest := List.map (cv g) [vi 0, vr 120]) (g := F0 m 5 la (List.map (cv g) [vi w, vi x, vr 1, vi 0, vr 120])) (Ts := TBL) ⟨C.hx, C.hb, C.hml, C.hown, C.hts⟩ hM2 ⟨hCB, C.hts _ (TBL_in 1424 (by decide +kernel) rfl), C.hts _ (TBL_in 1425 (by decide +kernel) rfl)⟩ ⟨lkP_blind g _ _, hcell, fun U hU hW => ⟨⟨rfl, C.ext h1 h2 U hU hW⟩, hth.at h2 hU hW⟩⟩ rfl rfl h3.1 rfl (lv_room (Nat.le_of_ble_eq_true rfl)) (show decode cL_look 5 = .ok (.invokevirtual 7, 3) by decide +kernel) ⟨by decide, by decide⟩
    refine vx_calli hrun h2 (fun q _ z => z.elim) (fun q z => z) (fun q _ z => z) (fun E ce q9 u t H1 locs1 e1 ha _ hE9 hsz hkp hS1 hce hcv hcl => ?_) (fun r u t H1 locs1 _ _ z _ _ _ _ => z.elim)
    obtain ⟨rfl, d, hHB⟩ := hE9
    have hHB1 : HB g s (jk σ d) H1 := by
      rw [← e1]
      exact hHB.moved ha.symm
    refine vx_catch (own := RL) (name := nse) C.hown [] ⟨0, 10, 13, 13⟩ [] htab (fun z hz => nomatch hz) (by decide) (by decide) (C.hts _ (TBL_in 1422 (by decide +kernel) rfl)) (vx_ot_at (State.WarmedH.refl s) rfl (by decide +kernel) (C.hE _ (XW_in 1429 (by decide +kernel) rfl))) hce hcv hcl ?_
    refine lv_astore C.hx C.hb (i := 4) (nL := 5) (lv := asl g [some (vr 1), some (vi x), some (vi w), some (vr 120), none]) (by decide +kernel) h3.has (by decide) rfl fun la' hla => ?_
    have hww : WW g p l e s m (List.map (cv g) [vr 1, vi x, vi w, vr 120]).toArray below meth c 5 8 1 6 (MQ below (OutS g QQ) (List.map (cv g) [vr 1, vi x, vi w, vr 120]).toArray s 1 6 (AF g)) 15 [none, none, none, none, none] [] (jk σ d) (0 + 1, 0 + 6) := by
      refine w_iconst C (n := 1) (by decide +kernel) ?_
      exact w_ireturn C trivial (q2 cc d) (by decide +kernel)
    exact hww H1 locs1 la' hHB1 hS1 ⟨hla.1, rfl, hla.2.1, fun i v hi => by
      rcases i with _ | _ | _ | _ | _ | i <;> cases hi⟩ (by decide) (by decide)
/-- the law's call of it -/
theorem law_look {Q : Option AV → Hp → Prop} {σ : Hp} {ls : List (Option AV)} {x w : Int} {kc ks : Nat} (hk : kc + 1 ≤ 601024 ∧ ks + 6 ≤ 7293034) (hf : lkF σ) (hx : inR x) (hw : inR w) (ho : kd σ 120 = 102 ∧ ln σ 120 = 1) (q1 : ((0 ≤ x ∧ x < fI σ 1302 61) ∧ 0 ≤ w ∧ w ≤ 8) → GoF M_L_law Q 1257 ls [vi 0] (qL σ 120 0 (BitVec.ofInt 64 (wI (mLk σ x w)))) (kc + 1, ks + 6)) (q2 : ¬ ((0 ≤ x ∧ x < fI σ 1302 61) ∧ 0 ≤ w ∧ w ≤ 8) → ∀ d, GoF M_L_law Q 1257 ls [vi 1] (jk σ d) (kc + 1, ks + 6)) : GoF M_L_law Q 1254 ls [vr 120, vi w, vi x, vr 1] σ (kc, ks) := by
  rw [GoF_eq] at q1 q2 ⊢
  intro g p l e s m args below meth cd X C hn
  have hM := met_look (g := g) (l := l) (QQ := fun r σ' => (r = some (vi 0) ∧ ((0 ≤ x ∧ x < fI σ 1302 61) ∧ 0 ≤ w ∧ w ≤ 8) ∧ σ' = qL σ 120 0 (BitVec.ofInt 64 (wI (mLk σ x w)))) ∨ (r = some (vi 1) ∧ ¬ ((0 ≤ x ∧ x < fI σ 1302 61) ∧ 0 ≤ w ∧ w ≤ 8) ∧ ∃ d, σ' = jk σ d)) X.1 hf hx hw ho (fun z => Or.inl ⟨rfl, z, rfl⟩) (fun z d => Or.inr ⟨rfl, z, d, rfl⟩)
  refine ww_of_run (rest := []) (aa := (List.map (cv g) [vr 1, vi x, vi w, vr 120]).toArray) (a := 1) (b := 6) (Qf := fun r σ' => (r = some (vi 0) ∧ ((0 ≤ x ∧ x < fI σ 1302 61) ∧ 0 ≤ w ∧ w ≤ 8) ∧ σ' = qL σ 120 0 (BitVec.ofInt 64 (wI (mLk σ x w)))) ∨ (r = some (vi 1) ∧ ¬ ((0 ≤ x ∧ x < fI σ 1302 61) ∧ 0 ≤ w ∧ w ≤ 8) ∧ ∃ d, σ' = jk σ d)) (fun r σ' h => ?_) hk.1 hk.2 fun H locs la h1 h2 h3 => ?_
  · rcases h with ⟨e1, c, e2⟩ | ⟨e1, c, d, e2⟩
    · rw [e1, e2]
      exact q1 c g p l e s m args below meth cd X C hn
    · rw [e1, e2]
      exact q2 c d g p l e s m args below meth cd X C hn
  · exact vx_runSW (hh := lkT) (bytes := cL_look) (maxL := 5) (ret := some .int) (index := 142) (n := 4) (y := yL_look) (As := List.map (cv g) [vr 1, vi x, vi w, vr 120]) (rest := []) (g := F0 m 1254 la (List.map (cv g) [vr 120, vi w, vi x, vr 1])) (Ts := TBL) (own := RL) ⟨C.hx, C.hb, C.hml, C.hown, C.hts⟩ hM ⟨⟨rfl, rfl, by decide, by decide, pay_in C.hts wsLk_good, List.mem_cons_self⟩, C.hts _ wsLk_in, C.hts _ (TBL_in 110 (by decide +kernel) rfl), by decide +kernel, fun sig h => by
      have h2 : (parseMethodDescriptor yL_look.desc).map (fun d => d.parameters.length) = some 4 := by decide +kernel
      rw [h] at h2
      exact (Option.some.inj h2).symm, C.hts _ (TBL_in 1419 (by decide +kernel) rfl), C.hts _ (TBL_in 1420 (by decide +kernel) rfl)⟩ ⟨lkP_blind g _ _, fun U hU hW => ⟨⟨rfl, C.ext h1 h2 U hU hW⟩, ThS.at ⟨X.2.1, X.2.2⟩ h2 hU hW⟩⟩ rfl rfl h3.1 rfl (lv_room (Nat.le_of_ble_eq_true rfl)) (show decode cL_law 1254 = .ok (.invokestatic 142, 3) by decide +kernel) ⟨hk.1, hk.2⟩
theorem cmL_self (v : BitVec 64) : cmL v v = 0 := by
  unfold cmL
  rw [if_neg (by simp [BitVec.slt]), if_pos rfl]

theorem fu_out0 {b n : Int} {σ σ1 τ : Hp}  (hF : Fu b n σ) (hb : b < 0) (hw : ∀ r, kd σ r = 21 → r < 0) (z : Fz [] noR (fun r => r = 120) σ σ1) (e2 : τ = σ1) : Fu b n τ := by
  obtain ⟨⟨hC, hnw, hX, hL, hG, hA, hK, hR, hH, hT, hLT, hTX, hLD⟩, ⟨iM, iB, iF, iU, iC, iW, iA, iH, iG, iN, iS, iT⟩, hS⟩ := hF
  have re : RE σ σ1 := z.re (by decide) (fun r q => by first | exact absurd q id | (dsimp only at q; omega) | omega | (unfold tfA at q; omega) | (unfold tfL at q; omega)) (fun r q => by first | exact absurd q id | (dsimp only at q; omega) | omega | (unfold tfA at q; omega) | (unfold tfL at q; omega))
  have C1 : CLay σ1 := hC.fz z (by decide)
  have n1 : fI σ1 1210 1 = fI σ1 1301 61 := by
    rw [z.fI (f := 1210) (by decide), hnw]
    exact (re.2 1301 (by omega) (by omega)).1.symm
  have iM1 : MI σ1 := MI_RE re iM.1
  have mi : MI τ := by
    rw [e2]
    exact iM1
  have rf : Rf [] [] σ1 τ := by rw [e2]; exact Rf.rf _ _ _
  have ce : CE σ1 τ := by rw [e2]; exact CE.rf _
  have S1 : Scp σ1 b n := by
    unfold Scp at *
    rw [z.kd, z.ln, z.aI (r := b) (by first | exact id | omega | (intro q; dsimp only at q; omega) | (unfold tfA; omega) | (unfold tfL; omega))]
    exact hS
  have r_now : fI σ1 1210 1 = fI τ 1301 61 := n1.trans (rf.1 1301 (by omega) (by omega) (by decide)).symm
  have r_BX : BX σ1 τ := ((hX.re re).fz z (by decide) (by decide) (by decide) (by decide)).rf rf (by decide) (by decide)
  have r_LR : ∀ l, 0 ≤ l → l < 4 → LR l σ1 τ := fun l a b => ((((hL l a b).re re).fz hC ⟨a, b⟩ z (by decide) (by decide) (by decide) (by decide) (by decide) (fun r h1 h2 => by first | exact id | omega | (intro q; dsimp only at q; omega) | (unfold tfA; omega))).rf rf (by decide))
  have r_BG : BG σ1 τ := ((hG.re re).fz z (by decide) (by first | exact id | omega | (intro q; dsimp only at q; omega) | (unfold tfA; omega) | (unfold tfL; omega)) (by first | exact id | omega | (intro q; dsimp only at q; omega) | (unfold tfA; omega) | (unfold tfL; omega))).rf rf (by decide) (by decide)
  have r_AL : AL σ1 τ := ((hA.re re).fz z (by decide) (by decide) (by decide) (by decide) (by decide) (fun r q => by first | exact absurd q id | (dsimp only at q; omega) | omega | (unfold tfA at q; omega) | (unfold tfL at q; omega))).rf rf (by decide) (by decide)
  have r_DKR : DKR σ1 τ := ((hK.re re).fz z (by decide) (fun r q => by first | exact absurd q id | (dsimp only at q; omega) | omega | (unfold tfA at q; omega) | (unfold tfL at q; omega))).rf rf (by decide) (by decide)
  have r_RDR : RDR σ1 τ := ((hR.re re).fz z (by decide) (by first | exact id | omega | (intro q; dsimp only at q; omega) | (unfold tfA; omega) | (unfold tfL; omega))).rf rf (by decide) (by decide)
  have r_held : fI σ1 901 24 = fI τ 1343 61 ∧ aI σ1 25 = aI τ 92 := ⟨by rw [z.fI (f := 901) (by decide), hH.1]; exact ((rf.1 1343 (by omega) (by omega) (by decide)).trans (re.2 1343 (by omega) (by omega)).1).symm, by rw [z.aI (r := 25) (by first | exact id | omega | (intro q; dsimp only at q; omega) | (unfold tfA; omega) | (unfold tfL; omega)), hH.2]; exact ((rf.2 92 (by omega) (by omega) (by decide)).trans (re.1 92 (by omega) (by omega)).2.2.1).symm⟩
  have r_TG : TGr σ1 := hT.fz z (by first | exact id | omega | (intro q; dsimp only at q; omega) | (unfold tfA; omega) | (unfold tfL; omega)) (by first | exact id | omega | (intro q; dsimp only at q; omega) | (unfold tfA; omega) | (unfold tfL; omega))
  have r_LTT : LTT σ1 := (hLT.fz z (by decide) (by first | exact id | omega | (intro q; dsimp only at q; omega) | (unfold tfA; omega) | (unfold tfL; omega))).1
  have r_TXT : TXT σ1 := hTX.fz z (by decide) (fun r q e => by have q2 := hw r e; first | exact absurd q id | (dsimp only at q; omega) | omega | (unfold tfA at q; omega))
  have r_LD : LD σ1 := hLD.fz z (by decide)
  have i_MT : MT τ := (iM.re re).rf rf mi (by decide) (by decide)
  have i_RB : RB τ := (iB.re re).rf rf (by decide) (by decide)
  have i_kF : kFirst τ := (iF.re re).rf rf (by decide)
  have i_upL : upL τ := (iU.re re).rf rf (by decide)
  have i_mC : mCards τ := (iC.re re).rf rf (by decide) (by decide)
  have i_WI : WI τ := (iW.re re).rf rf (by decide) (by decide)
  have i_AB : AB τ := (iA.re re).rf rf (by decide) (by decide)
  have i_HI : HIs τ := (iH.re re).rf rf (by decide) (by decide)
  have i_WG : WG τ := (iG.re re).rf rf (by decide) (by decide)
  have i_InN : InN τ := (iN.re re).rf rf (by decide) (by decide)
  have i_InS : InS2 τ := (iS.re re).rf rf (by decide) (by decide)
  have i_lT : lT τ := (iT.re re).rf rf (by decide) (by decide)
  have rel : Rel σ1 τ := ⟨C1, r_now, r_BX, r_LR, r_BG, r_AL, r_DKR, r_RDR, r_held, r_TG, r_LTT, r_TXT, r_LD⟩
  exact ⟨rel.ce (fun r q => hw r (by rw [← z.kd]; exact q)) ce, ⟨i_MT, i_RB, i_kF, i_upL, i_mC, i_WI, i_AB, i_HI, i_WG, i_InN, i_InS, i_lT⟩, S1.ce hb ce⟩
theorem fu_out {b n : Int} {σ : Hp} {v : BitVec 64} (hF : Fu b n σ) (hb : b < 0) (hw : ∀ r, kd σ r = 21 → r < 0) : Fu b n (qL σ 120 0 v) := fu_out0 hF hb hw (Fz_qL _ _ _ rfl) rfl

set_option maxRecDepth 20000 in
theorem lc_look2 {Q : Option AV → Hp → Prop} {σ : Hp} {b n i x w : Int} {kc ks : Nat} {a5 a6 : Option AV} (hF : Fu b n σ) (hx : x = aI σ b (i + 1)) (hw : w = aI σ b (i + 2)) (hi : 0 ≤ i ∧ i + 7 ≤ n ∧ n ≤ 3584) (hk : kc ≤ 601024 ∧ ks ≤ 7293034) (c : (0 ≤ x ∧ x < fI σ 1302 61) ∧ 0 ≤ w ∧ w ≤ 8) (ho : aL σ 120 0 = BitVec.ofInt 64 (wI (mLk σ x w))) (h : ∀ a5 a6, GoF M_L_law Q 1333 [some (vr b), some (vr 1), some (vr 61), some (vr 120), some (vi i), a5, a6] [] (pI σ 1300 61 0) (kc, ks)) : GoF M_L_law Q 1257 [some (vr b), some (vr 1), some (vr 61), some (vr 120), some (vi i), a5, a6] [vi 0] σ (kc, ks) := by
  obtain ⟨-, ⟨iM, -⟩, ⟨s1, s1a, s1b⟩, s2, s3⟩ := id hF
  have hI := iM.1
  have v1 := s3 (i + 1)
  have v2 := s3 (i + 2)
  rw [hx, hw] at c ho
  clear hx hw
  have h' := h (some (vi 0)) (some (vi (mLk σ (aI σ b (i + 1)) (aI σ b (i + 2)))))
  clear h hF iM
  have e6 : wI 0 = 0 := rfl
  refine gof_L_law (ct := fun p => p == 1333) 60 ?_
  simp only [oI, oL, oR, o1, lI, lL, lR, popN, catS, gv, stL, stL2, swt, cnd, spObj, List.getElem?_cons_zero, List.getElem?_cons_succ, List.getD_cons_zero, List.getD_cons_succ, List.set_cons_zero, List.set_cons_succ, List.nil_append, List.cons_append, Option.toList, Bool.or_false, Bool.false_or, Bool.or_true, Bool.true_or, Nat.reduceBEq, Nat.reduceAdd, Nat.reduceLT, Nat.reduceLeDiff, Int.reduceAdd, Int.reduceToNat, true_and, and_true, Fin.isValue, Fin.val_zero, Fin.val_one, Fin.val_two, Fin.reduceFinMk, eq_self, Int.reduceNeg, imp_self, Nat.reduceMul, Nat.le_refl, not_true_eq_false, not_false_eq_true, List.getElem?_nil, reduceCtorEq, true_or, or_true, Classical.not_not, implies_true, or_self, wI_0, wI_1, wI_m1, b2i_w, b2i_eq0, b2i_eq1, b2i_bool, nor_self, nx_pI, kd_pI, ln_pI, fI_pI, fL_pI, fR_pI, aI_pI, aL_pI, aR_pI, nx_pL, kd_pL, ln_pL, fI_pL, fL_pL, fR_pL, aI_pL, aL_pL, aR_pL, nx_pR, kd_pR, ln_pR, fI_pR, fL_pR, fR_pR, aI_pR, aL_pR, aR_pR, nx_qI, kd_qI, ln_qI, fI_qI, fL_qI, fR_qI, aI_qI, aL_qI, aR_qI, nx_qL, kd_qL, ln_qL, fI_qL, fL_qL, fR_qL, aI_qL, aL_qL, aR_qL, nx_qR, kd_qR, ln_qR, fI_qR, fL_qR, fR_qR, aI_qR, aL_qR, aR_qR, nx_mk, kd_mk, ln_mk, fI_mk, fL_mk, fR_mk, aI_mk, aL_mk, aR_mk, false_and, and_false, if_false, if_true, and_self, Int.reduceEq, Nat.reduceEqDiff, ite_self, MLay_pI, MLay_pL, MLay_qI, MLay_qL, ev_L_law_1257, ev_L_law_1259, ev_L_law_1260, ev_L_law_1261, ev_L_law_1263, ev_L_law_1264, ev_L_law_1265, ev_L_law_1266, ev_L_law_1267, ev_L_law_1269, ev_L_law_1270, ev_L_law_1271, ev_L_law_1272, ev_L_law_1275, ev_L_law_1277, ev_L_law_1278, ev_L_law_1281, ev_L_law_1283, ev_L_law_1288, ev_L_law_1290, ev_L_law_1293, ev_L_law_1294, ev_L_law_1295, ev_L_law_1296, ev_L_law_1298, ev_L_law_1299, ev_L_law_1300, ev_L_law_1303, ev_L_law_1304, ev_L_law_1305, xt_L_law, xf_L_law, us_X11_init, us_X12_init, us_X11_ticks, us_X12_ticks, us_X11_box, us_X12_box, us_X11_pull, us_X12_pull, us_X11_cut, us_X12_cut, us_X11_knocked, us_X12_knocked, us_X11_reading, us_X12_reading, us_X11_stories, us_X12_stories, us_X11_story, us_X12_story, us_X11_ask, us_X12_ask, us_X11_house, us_X12_house, us_X11_company, us_X12_company, us_X11_pace, us_X12_pace, us_X11_feed, us_X12_feed, us_X11_cards, us_X12_cards, us_X11_alarm, us_X12_alarm, us_X11_again, us_X12_again, us_X11_sent, us_X12_sent, us_X11_over, us_X12_over, us_X11_at, us_X12_at, us_X11_there, us_X12_there, us_X11_covered, us_X12_covered, us_X11_moves, us_X12_moves, us_X11_move, us_X12_move, us_X11_done, us_X12_done, us_X11_word, us_X12_word, us_X11_known, us_X12_known, us_X11_rate, us_X12_rate, us_X11_worst, us_X12_worst, us_X12_look, us_X12_thrown, us_X11_count, us_X12_count, s1, s1a, s1b, s2, hI, hI.lay.eqs, v1, v2, c, ho, cmL_self, true_implies, false_implies]
  repeat' with_reducible apply And.intro
  all_goals try omega
  all_goals exact h'

set_option maxRecDepth 20000 in
theorem lc_look3 {Q : Option AV → Hp → Prop} {σ : Hp} {b n i x w : Int} {kc ks : Nat} {a5 a6 : Option AV} (hF : Fu b n σ) (hx : x = aI σ b (i + 1)) (hw : w = aI σ b (i + 2)) (hi : 0 ≤ i ∧ i + 7 ≤ n ∧ n ≤ 3584) (hk : kc ≤ 601024 ∧ ks ≤ 7293034) (c : ¬ ((0 ≤ x ∧ x < fI σ 1302 61) ∧ 0 ≤ w ∧ w ≤ 8)) (h : ∀ a5 a6, GoF M_L_law Q 1333 [some (vr b), some (vr 1), some (vr 61), some (vr 120), some (vi i), a5, a6] [] (pI (pI σ 1300 61 0) 1300 61 1) (kc, ks)) : GoF M_L_law Q 1257 [some (vr b), some (vr 1), some (vr 61), some (vr 120), some (vi i), a5, a6] [vi 1] σ (kc, ks) := by
  obtain ⟨-, ⟨iM, -⟩, ⟨s1, s1a, s1b⟩, s2, s3⟩ := id hF
  have hI := iM.1
  have v1 := s3 (i + 1)
  have v2 := s3 (i + 2)
  rw [hx, hw] at c
  clear hx hw
  have h' := h (some (vi 1)) (some (vi 0))
  clear h hF iM
  have e6 : ¬ wI 1 = 0 := by decide
  refine gof_L_law (ct := fun p => p == 1333) 60 ?_
  simp only [oI, oL, oR, o1, lI, lL, lR, popN, catS, gv, stL, stL2, swt, cnd, spObj, List.getElem?_cons_zero, List.getElem?_cons_succ, List.getD_cons_zero, List.getD_cons_succ, List.set_cons_zero, List.set_cons_succ, List.nil_append, List.cons_append, Option.toList, Bool.or_false, Bool.false_or, Bool.or_true, Bool.true_or, Nat.reduceBEq, Nat.reduceAdd, Nat.reduceLT, Nat.reduceLeDiff, Int.reduceAdd, Int.reduceToNat, true_and, and_true, Fin.isValue, Fin.val_zero, Fin.val_one, Fin.val_two, Fin.reduceFinMk, eq_self, Int.reduceNeg, imp_self, Nat.reduceMul, Nat.le_refl, not_true_eq_false, not_false_eq_true, List.getElem?_nil, reduceCtorEq, true_or, or_true, Classical.not_not, implies_true, or_self, wI_0, wI_1, wI_m1, b2i_w, b2i_eq0, b2i_eq1, b2i_bool, nor_self, nx_pI, kd_pI, ln_pI, fI_pI, fL_pI, fR_pI, aI_pI, aL_pI, aR_pI, nx_pL, kd_pL, ln_pL, fI_pL, fL_pL, fR_pL, aI_pL, aL_pL, aR_pL, nx_pR, kd_pR, ln_pR, fI_pR, fL_pR, fR_pR, aI_pR, aL_pR, aR_pR, nx_qI, kd_qI, ln_qI, fI_qI, fL_qI, fR_qI, aI_qI, aL_qI, aR_qI, nx_qL, kd_qL, ln_qL, fI_qL, fL_qL, fR_qL, aI_qL, aL_qL, aR_qL, nx_qR, kd_qR, ln_qR, fI_qR, fL_qR, fR_qR, aI_qR, aL_qR, aR_qR, nx_mk, kd_mk, ln_mk, fI_mk, fL_mk, fR_mk, aI_mk, aL_mk, aR_mk, false_and, and_false, if_false, if_true, and_self, Int.reduceEq, Nat.reduceEqDiff, ite_self, MLay_pI, MLay_pL, MLay_qI, MLay_qL, ev_L_law_1257, ev_L_law_1259, ev_L_law_1260, ev_L_law_1261, ev_L_law_1263, ev_L_law_1264, ev_L_law_1265, ev_L_law_1266, ev_L_law_1267, ev_L_law_1269, ev_L_law_1270, ev_L_law_1271, ev_L_law_1272, ev_L_law_1275, ev_L_law_1277, ev_L_law_1278, ev_L_law_1281, ev_L_law_1283, ev_L_law_1288, ev_L_law_1290, ev_L_law_1305, xt_L_law, xf_L_law, us_X11_init, us_X12_init, us_X11_ticks, us_X12_ticks, us_X11_box, us_X12_box, us_X11_pull, us_X12_pull, us_X11_cut, us_X12_cut, us_X11_knocked, us_X12_knocked, us_X11_reading, us_X12_reading, us_X11_stories, us_X12_stories, us_X11_story, us_X12_story, us_X11_ask, us_X12_ask, us_X11_house, us_X12_house, us_X11_company, us_X12_company, us_X11_pace, us_X12_pace, us_X11_feed, us_X12_feed, us_X11_cards, us_X12_cards, us_X11_alarm, us_X12_alarm, us_X11_again, us_X12_again, us_X11_sent, us_X12_sent, us_X11_over, us_X12_over, us_X11_at, us_X12_at, us_X11_there, us_X12_there, us_X11_covered, us_X12_covered, us_X11_moves, us_X12_moves, us_X11_move, us_X12_move, us_X11_done, us_X12_done, us_X11_word, us_X12_word, us_X11_known, us_X12_known, us_X11_rate, us_X12_rate, us_X11_worst, us_X12_worst, us_X12_look, us_X12_thrown, us_X11_count, us_X12_count, s1, s1a, s1b, s2, hI, hI.lay.eqs, v1, v2, c, e6, true_implies, false_implies]
  repeat' with_reducible apply And.intro
  all_goals try omega
  all_goals exact h'

set_option maxRecDepth 20000 in
theorem lc_look {Q : Option AV → Hp → Prop} {σ : Hp} {b n i : Int} {kc ks : Nat} {a5 a6 : Option AV} (hF : Fu b n σ) (hw : Wf σ) (hb : b < 0) (hi : 0 ≤ i ∧ i + 7 ≤ n ∧ n ≤ 3584) (hk : kc + 3 ≤ 601024 ∧ ks + 314 ≤ 7293034) (h : NX Q b n i kc ks) : GoF M_L_law Q 1240 [some (vr b), some (vr 1), some (vr 61), some (vr 120), some (vi i), a5, a6] [] σ (kc, ks) := by
  have hw21 : ∀ r, kd σ r = 21 → r < 0 := fun r q => hw.s21 r (Or.inr q)
  obtain ⟨⟨hC, hnw, hX, hL, -⟩, ⟨iM, iB, -⟩, ⟨s1, s1a, s1b⟩, s2, s3⟩ := id hF
  have hf : lkF σ := ⟨hC, hnw, hX, hL, iM, iB⟩
  have w1 : GoF M_L_law Q 1254 [some (vr b), some (vr 1), some (vr 61), some (vr 120), some (vi i), a5, a6] [vr 120, vi (aI σ b (i + 2)), vi (aI σ b (i + 1)), vr 1] σ (kc, ks) := by
    refine law_look ⟨by omega, by omega⟩ hf (s3 _) (s3 _) ⟨s1a, s1b⟩ (fun c => ?_) (fun c d => ?_)
    · have F1 := fu_out (v := BitVec.ofInt 64 (wI (mLk σ (aI σ b (i + 1)) (aI σ b (i + 2))))) hF hb hw21
      refine lc_look2 F1 (x := aI σ b (i + 1)) (w := aI σ b (i + 2)) rfl rfl hi ⟨by omega, by omega⟩ c ?_ (fun a5 a6 => h _ _ _ a5 a6 (Fu.th (v := 0) hb hw21 F1) (by omega) (by omega))
      have e : mLk (qL σ 120 0 (BitVec.ofInt 64 (wI (mLk σ (aI σ b (i + 1)) (aI σ b (i + 2)))))) (aI σ b (i + 1)) (aI σ b (i + 2)) = mLk σ (aI σ b (i + 1)) (aI σ b (i + 2)) := rfl
      rw [e, aL_qL, if_pos ⟨rfl, rfl⟩]
    · have F1 := fu_jk hF hw d
      have wd := Wf_jk hw d
      have wd21 : ∀ r, kd (jk σ d) r = 21 → r < 0 := fun r q => wd.s21 r (Or.inr q)
      have eb : aI (jk σ d) b = aI σ b := jk_a σ b d
      have en : fI (jk σ d) 1302 61 = fI σ 1302 61 := jk_f σ _ _ d
      exact lc_look3 F1 (x := aI σ b (i + 1)) (w := aI σ b (i + 2)) (by rw [eb]) (by rw [eb]) hi ⟨by omega, by omega⟩ (by rw [en]; exact c) (fun a5 a6 => h _ _ _ a5 a6 (Fu.th (v := 1) hb wd21 (Fu.th (v := 0) hb wd21 F1)) (by omega) (by omega))
  clear h hF
  refine gof_L_law (ct := fun p => p == 1254) 40 ?_
  simp only [oI, oL, oR, o1, lI, lL, lR, popN, catS, gv, stL, stL2, swt, cnd, spObj, List.getElem?_cons_zero, List.getElem?_cons_succ, List.getD_cons_zero, List.getD_cons_succ, List.set_cons_zero, List.set_cons_succ, List.nil_append, List.cons_append, Option.toList, Bool.or_false, Bool.false_or, Bool.or_true, Bool.true_or, Nat.reduceBEq, Nat.reduceAdd, Nat.reduceLT, Nat.reduceLeDiff, Int.reduceAdd, Int.reduceToNat, true_and, and_true, Fin.isValue, Fin.val_zero, Fin.val_one, Fin.val_two, Fin.reduceFinMk, eq_self, Int.reduceNeg, imp_self, Nat.reduceMul, Nat.le_refl, not_true_eq_false, not_false_eq_true, List.getElem?_nil, reduceCtorEq, true_or, or_true, Classical.not_not, implies_true, or_self, wI_0, wI_1, wI_m1, b2i_w, b2i_eq0, b2i_eq1, b2i_bool, nor_self, nx_pI, kd_pI, ln_pI, fI_pI, fL_pI, fR_pI, aI_pI, aL_pI, aR_pI, nx_pL, kd_pL, ln_pL, fI_pL, fL_pL, fR_pL, aI_pL, aL_pL, aR_pL, nx_pR, kd_pR, ln_pR, fI_pR, fL_pR, fR_pR, aI_pR, aL_pR, aR_pR, nx_qI, kd_qI, ln_qI, fI_qI, fL_qI, fR_qI, aI_qI, aL_qI, aR_qI, nx_qL, kd_qL, ln_qL, fI_qL, fL_qL, fR_qL, aI_qL, aL_qL, aR_qL, nx_qR, kd_qR, ln_qR, fI_qR, fL_qR, fR_qR, aI_qR, aL_qR, aR_qR, nx_mk, kd_mk, ln_mk, fI_mk, fL_mk, fR_mk, aI_mk, aL_mk, aR_mk, false_and, and_false, if_false, if_true, and_self, Int.reduceEq, Nat.reduceEqDiff, ite_self, MLay_pI, MLay_pL, MLay_qI, MLay_qL, ev_L_law_1240, ev_L_law_1241, ev_L_law_1242, ev_L_law_1244, ev_L_law_1245, ev_L_law_1246, ev_L_law_1247, ev_L_law_1248, ev_L_law_1250, ev_L_law_1251, ev_L_law_1252, ev_L_law_1253, xt_L_law, xf_L_law, s1, s2, true_implies, false_implies]
  repeat' with_reducible apply And.intro
  all_goals try omega
  all_goals exact w1

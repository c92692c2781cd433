/-! the class's calls: box -/

theorem LOk.added {σ σ' : Hp} {p q x : Int} {ci : Nat} (hw : Wf σ) (hA : Added σ q x σ') (h : LOk σ p ci) (hne : ¬ p = q) (hd : fR σ 1401 p = fR σ 1401 q → ln σ (fR σ 1401 p) = 0) : LOk σ' p ci ∧ fI σ' 1402 p = fI σ 1402 p ∧ ∀ i, 0 ≤ i → i < fI σ 1402 p → lat σ' p i = lat σ p i := by
  obtain ⟨-, a2, -, a4, -, -, a7, -, -, a10, -⟩ := hA
  obtain ⟨l1, l2, l3, l4, l5, l6⟩ := h
  have hp := (hw.2.1 p (by omega)).2.1
  have he := (hw.2.1 (fR σ 1401 p) (by omega)).2.1
  have e1 : fR σ' 1401 p = fR σ 1401 p := a7 _ _ (by omega)
  have e0 : fR σ' 3000 0 = fR σ 3000 0 := a7 _ _ (by omega)
  have e2 : fI σ' 1402 p = fI σ 1402 p := a4 _ _ (by omega)
  have e3 : ∀ i, 0 ≤ i → i < fI σ 1402 p → aR σ' (fR σ 1401 p) i = aR σ (fR σ 1401 p) i := fun i a b => a10 _ _ he (fun z => by have := hd z; omega)
  refine ⟨?_, e2, fun i a b => ?_⟩
  · unfold LOk
    rw [e1, e2, e0, (a2 p hp).1, (a2 _ he).1, (a2 _ he).2]
    refine ⟨l1, l2, l3, l4, l5, fun j a b => ?_⟩
    rw [e3 j a b]
    have h6 := l6 j a b
    have := (hw.2.1 (aR σ (fR σ 1401 p) j) (by omega)).2.1
    rw [(a2 _ this).1]
    exact h6
  · unfold lat
    rw [e1]
    exact e3 i a b
/-- a box made and hung -/
def cBox1 (σ : Hp) (l n kn x y w : Int) : Hp := pI (pI (pI (pI (pI (pI (cWhl (pI (pI (pI (mk σ 3 0) 313 (nx σ) (-1)) 300 (nx σ) n) 301 (nx σ) kn) (nx σ) n) 302 (nx σ) (fI σ 1402 3)) 303 (nx σ) l) 304 (nx σ) (fI σ 1402 (46 + 4 * l))) 305 (nx σ) x) 306 (nx σ) y) 307 (nx σ) w
theorem cRnd_s (σ : Hp) (p : Int) (r : BitVec 64) (s : Int) : nx (cRnd σ p r s) = nx σ ∧ kd (cRnd σ p r s) = kd σ ∧ ln (cRnd σ p r s) = ln σ ∧ fI (cRnd σ p r s) = fI σ ∧ fR (cRnd σ p r s) = fR σ ∧ aI (cRnd σ p r s) = aI σ ∧ aL (cRnd σ p r s) = aL σ ∧ aR (cRnd σ p r s) = aR σ ∧ ∀ f k, ¬ k = p → fL (cRnd σ p r s) f k = fL σ f k := by
  unfold cRnd
  split
  · refine ⟨rfl, rfl, rfl, rfl, rfl, rfl, rfl, rfl, fun f k hk => ?_⟩
    rw [fL_pL, if_neg (fun z => hk z.2)]
  · split
    · refine ⟨rfl, rfl, rfl, rfl, rfl, rfl, rfl, rfl, fun f k hk => ?_⟩
      rw [fL_pL, if_neg (fun z => hk z.2), fL_pL, if_neg (fun z => hk z.2)]
    · refine ⟨rfl, rfl, rfl, rfl, rfl, rfl, rfl, rfl, fun f k hk => ?_⟩
      rw [fL_pL, if_neg (fun z => hk z.2)]
theorem cWhl_s (σ : Hp) (p n : Int) : nx (cWhl σ p n) = nx σ ∧ kd (cWhl σ p n) = kd σ ∧ ln (cWhl σ p n) = ln σ ∧ fR (cWhl σ p n) = fR σ ∧ aI (cWhl σ p n) = aI σ ∧ aL (cWhl σ p n) = aL σ ∧ aR (cWhl σ p n) = aR σ ∧ (∀ f k, ¬ k = p → fL (cWhl σ p n) f k = fL σ f k) ∧ (∀ f k, ¬ (k = p ∧ (f = 308 ∨ f = 309)) → fI (cWhl σ p n) f k = fI σ f k) := by
  unfold cWhl
  obtain ⟨a1, a2, a3, a4, a5, a6, a7, a8, a9⟩ := cRnd_s (cK3 σ p n) p (cRo n).1 0
  obtain ⟨b1, b2, b3, b4, b5, b6, b7, b8, b9⟩ := cRnd_s (cRnd (cK3 σ p n) p (cRo n).1 0) p (cRo n).1 ((cRo n).2 - 3 + 6)
  obtain ⟨c1, c2, c3, c4, c5, c6, c7, c8, c9⟩ := cRnd_s (cRnd (cRnd (cK3 σ p n) p (cRo n).1 0) p (cRo n).1 ((cRo n).2 - 3 + 6)) p (cRo n).1 (2 * ((cRo n).2 - 3 + 6))
  refine ⟨c1.trans (b1.trans a1), c2.trans (b2.trans a2), c3.trans (b3.trans a3), c5.trans (b5.trans a5), c6.trans (b6.trans a6), c7.trans (b7.trans a7), c8.trans (b8.trans a8), fun f k hk => ?_, fun f k hk => ?_⟩
  · rw [fL_pI, c9 f k hk, b9 f k hk, a9 f k hk]; rfl
  · rw [fI_pI, if_neg (by omega), c4, b4, a4]
    unfold cK3 cKn
    rw [fI_pI, if_neg (by omega), fI_pI, if_neg (by omega), fI_pI, if_neg (by omega)]
theorem cBox1_s (σ : Hp) (l n kn x y w : Int) : nx (cBox1 σ l n kn x y w) = nx σ + 1 ∧ (∀ k, ¬ k = nx σ → kd (cBox1 σ l n kn x y w) k = kd σ k ∧ ln (cBox1 σ l n kn x y w) k = ln σ k) ∧ kd (cBox1 σ l n kn x y w) (nx σ) = 3 ∧ fR (cBox1 σ l n kn x y w) = fR σ ∧ aI (cBox1 σ l n kn x y w) = aI σ ∧ aL (cBox1 σ l n kn x y w) = aL σ ∧ aR (cBox1 σ l n kn x y w) = aR σ ∧ (∀ f k, ¬ k = nx σ → fL (cBox1 σ l n kn x y w) f k = fL σ f k) ∧ (∀ f k, ¬ k = nx σ → fI (cBox1 σ l n kn x y w) f k = fI σ f k) := by
  unfold cBox1
  obtain ⟨a1, a2, a3, a4, a5, a6, a7, a8, a9⟩ := cWhl_s (pI (pI (pI (mk σ 3 0) 313 (nx σ) (-1)) 300 (nx σ) n) 301 (nx σ) kn) (nx σ) n
  refine ⟨by simp only [nx_pI, a1, nx_mk], fun k hk => ?_, ?_, by simp only [fR_pI, a4, fR_mk], by simp only [aI_pI, a5, aI_mk], by simp only [aL_pI, a6, aL_mk], by simp only [aR_pI, a7, aR_mk], fun f k hk => ?_, fun f k hk => ?_⟩
  · simp only [kd_pI, ln_pI, a2, a3, kd_mk, ln_mk, hk, if_false, and_self]
  · simp only [kd_pI, a2, kd_mk, if_true]
  · simp only [fL_pI]
    rw [a8 f k hk]
    simp only [fL_pI, fL_mk]
  · simp only [fI_pI, hk, and_false, if_false]
    rw [a9 f k (fun z => hk z.1)]
    simp only [fI_pI, fI_mk, hk, and_false, if_false]
theorem LOk.cg {σ σ' : Hp} {p : Int} {ci : Nat} (hw : Wf σ) (h : LOk σ p ci) (h1 : ∀ k, ¬ k = nx σ → kd σ' k = kd σ k ∧ ln σ' k = ln σ k) (h2 : fR σ' 1401 p = fR σ 1401 p) (h3 : fI σ' 1402 p = fI σ 1402 p) (h4 : aR σ' (fR σ 1401 p) = aR σ (fR σ 1401 p)) (h5 : fR σ' 3000 0 = fR σ 3000 0) : LOk σ' p ci := by
  obtain ⟨l1, l2, l3, l4, l5, l6⟩ := h
  have hp := (hw.2.1 p (by omega)).2.1
  have he := (hw.2.1 (fR σ 1401 p) (by omega)).2.1
  unfold LOk
  rw [h2, h3, h4, h5, (h1 p (by omega)).1, (h1 (fR σ 1401 p) (by omega)).1, (h1 (fR σ 1401 p) (by omega)).2]
  refine ⟨l1, l2, l3, l4, l5, fun j a b => ?_⟩
  have h6 := l6 j a b
  have := (hw.2.1 (aR σ (fR σ 1401 p) j) (by omega)).2.1
  rw [(h1 _ (by omega)).1]
  exact h6
/-- a box may be hung -/
def cBoxOk (σ : Hp) (l n kn x y w : Int) : Prop := (0 ≤ l ∧ l < 4) ∧ fI σ 1402 3 < 32 ∧ (0 ≤ w ∧ w ≤ 7) ∧ ((0 ≤ x ∧ x ≤ 99) ∧ 0 ≤ y ∧ y ≤ 99) ∧ okNum n ∧ (0 ≤ kn ∧ kn ≤ 1) ∧ ¬ (bE (fI σ 1402 (46 + 4 * l)) fun k => fI σ 300 (lat σ (46 + 4 * l) k) = n) ∧ fI σ 1402 (46 + 4 * l) < 12

def sp_X11_box : Sp := fun av σ Q => oR av fun this av => oI av fun l av => oI av fun n av => oI av fun kn av => oI av fun x av => oI av fun y av => oI av fun w av => av = [] ∧ kd σ this = 12 ∧ (this = 1 ∧ CLay σ ∧ inR l ∧ inR n ∧ inR kn ∧ inR x ∧ inR y ∧ inR w ∧ LOk σ 3 2 ∧ (∀ l, 0 ≤ l → l < 4 → LpO σ (45 + 4 * l)) ∧ (∀ l, 0 ≤ l → l < 4 → fR σ 1401 3 = fR σ 1401 (46 + 4 * l) → ln σ (fR σ 1401 3) = 0) ∧   (cBoxOk σ l n kn x y w → ∀ σ2 σ3, Wf (cBox1 σ l n kn x y w) → Added (cBox1 σ l n kn x y w) (46 + 4 * l) (nx σ) σ2 → LOk σ2 (46 + 4 * l) 2 → Wf σ2 → Added σ2 3 (nx σ) σ3 → LOk σ3 3 2 → Q (some (vi (fI σ 1402 3))) σ3) ∧ (¬ cBoxOk σ l n kn x y w → Q (some (vi (-1))) σ))
theorem us_X11_box (this : Int) (l : Int) (n : Int) (kn : Int) (x : Int) (y : Int) (w : Int) (σ : Hp) (Q : Option AV → Hp → Prop) : sp_X11_box [vr this, vi l, vi n, vi kn, vi x, vi y, vi w] σ Q = (kd σ this = 12 ∧ (this = 1 ∧ CLay σ ∧ inR l ∧ inR n ∧ inR kn ∧ inR x ∧ inR y ∧ inR w ∧ LOk σ 3 2 ∧ (∀ l, 0 ≤ l → l < 4 → LpO σ (45 + 4 * l)) ∧ (∀ l, 0 ≤ l → l < 4 → fR σ 1401 3 = fR σ 1401 (46 + 4 * l) → ln σ (fR σ 1401 3) = 0) ∧   (cBoxOk σ l n kn x y w → ∀ σ2 σ3, Wf (cBox1 σ l n kn x y w) → Added (cBox1 σ l n kn x y w) (46 + 4 * l) (nx σ) σ2 → LOk σ2 (46 + 4 * l) 2 → Wf σ2 → Added σ2 3 (nx σ) σ3 → LOk σ3 3 2 → Q (some (vi (fI σ 1402 3))) σ3) ∧ (¬ cBoxOk σ l n kn x y w → Q (some (vi (-1))) σ))) := propext ⟨fun h => h.2, fun h => ⟨rfl, h⟩⟩
theorem el_X11_box {av : List AV} {σ : Hp} {Q : Option AV → Hp → Prop} (h : sp_X11_box av σ Q) : ∃ (this : Int) (l : Int) (n : Int) (kn : Int) (x : Int) (y : Int) (w : Int), av = [vr this, vi l, vi n, vi kn, vi x, vi y, vi w] ∧ (kd σ this = 12 ∧ (this = 1 ∧ CLay σ ∧ inR l ∧ inR n ∧ inR kn ∧ inR x ∧ inR y ∧ inR w ∧ LOk σ 3 2 ∧ (∀ l, 0 ≤ l → l < 4 → LpO σ (45 + 4 * l)) ∧ (∀ l, 0 ≤ l → l < 4 → fR σ 1401 3 = fR σ 1401 (46 + 4 * l) → ln σ (fR σ 1401 3) = 0) ∧   (cBoxOk σ l n kn x y w → ∀ σ2 σ3, Wf (cBox1 σ l n kn x y w) → Added (cBox1 σ l n kn x y w) (46 + 4 * l) (nx σ) σ2 → LOk σ2 (46 + 4 * l) 2 → Wf σ2 → Added σ2 3 (nx σ) σ3 → LOk σ3 3 2 → Q (some (vi (fI σ 1402 3))) σ3) ∧ (¬ cBoxOk σ l n kn x y w → Q (some (vi (-1))) σ))) := by
  obtain ⟨this, a0, rfl, h0⟩ := oR_s h
  obtain ⟨l, a1, rfl, h1⟩ := oI_s h0
  obtain ⟨n, a2, rfl, h2⟩ := oI_s h1
  obtain ⟨kn, a3, rfl, h3⟩ := oI_s h2
  obtain ⟨x, a4, rfl, h4⟩ := oI_s h3
  obtain ⟨y, a5, rfl, h5⟩ := oI_s h4
  obtain ⟨w, a6, rfl, h6⟩ := oI_s h5
  obtain ⟨rfl, hz⟩ := h6
  exact ⟨this, l, n, kn, x, y, w, rfl, hz⟩
theorem rc_X11_box : ∀ (av : List AV) (σ : Hp) (Q : Option AV → Hp → Prop), sp_X11_box av σ Q → ∃ r tl, av = vr r :: tl ∧ kd σ r = 11 + 1 := fun av σ Q h => by
  obtain ⟨this, l, n, kn, x, y, w, rfl, hz, -⟩ := el_X11_box h
  exact ⟨this, _, rfl, hz⟩

def tb_X11_box : Tab := [(0, .aload_n 0, 1, (0, 0, 0, 0)), (1, .iload_n 1, 1, (0, 0, 0, 0)), (2, .invokevirtual 79, 3, (0, 0, 0, 0)), (5, .astore 7, 2, (0, 0, 0, 0)), (7, .aload 7, 2, (0, 0, 0, 0)), (9, .ifnull 33, 3, (0, 0, 0, 0)), (12, .aload_n 0, 1, (0, 0, 0, 0)), (13, .getfield 33, 3, (12, 1203, 2, 0)), (16, .invokevirtual 83, 3, (0, 0, 0, 0)), (19, .bipush 32, 2, (0, 0, 0, 0)), (21, .if_icmp .ge 21, 3, (0, 0, 0, 0)), (24, .iload 6, 2, (0, 0, 0, 0)), (26, .invokestatic 89, 3, (0, 0, 0, 0)), (29, .ifCond .eq 13, 3, (0, 0, 0, 0)), (32, .iload 4, 2, (0, 0, 0, 0)), (34, .iload 5, 2, (0, 0, 0, 0)), (36, .invokestatic 93, 3, (0, 0, 0, 0)), (39, .ifCond .ne 5, 3, (0, 0, 0, 0)), (42, .iconst (-1), 1, (0, 0, 0, 0)), (43, .ireturn, 1, (0, 0, 0, 0)), (44, .iload_n 2, 1, (0, 0, 0, 0)), (45, .invokestatic 97, 3, (0, 0, 0, 0)), (48, .ifCond .eq 21, 3, (0, 0, 0, 0)), (51, .iload_n 3, 1, (0, 0, 0, 0)), (52, .ifCond .lt 17, 3, (0, 0, 0, 0)), (55, .iload_n 3, 1, (0, 0, 0, 0)), (56, .iconst 1, 1, (0, 0, 0, 0)), (57, .if_icmp .gt 12, 3, (0, 0, 0, 0)), (60, .aload 7, 2, (0, 0, 0, 0)), (62, .iload_n 2, 1, (0, 0, 0, 0)), (63, .invokevirtual 100, 3, (0, 0, 0, 0)), (66, .ifCond .ne 5, 3, (0, 0, 0, 0)), (69, .iconst (-1), 1, (0, 0, 0, 0)), (70, .ireturn, 1, (0, 0, 0, 0)), (71, .new 103, 3, (3, 14, 0, 0)), (74, .dup, 1, (0, 0, 0, 0)), (75, .iload_n 2, 1, (0, 0, 0, 0)), (76, .iload_n 3, 1, (0, 0, 0, 0)), (77, .invokespecial 105, 3, (0, 0, 0, 0)), (80, .astore 8, 2, (0, 0, 0, 0)), (82, .aload 8, 2, (0, 0, 0, 0)), (84, .aload_n 0, 1, (0, 0, 0, 0)), (85, .getfield 33, 3, (12, 1203, 2, 0)), (88, .invokevirtual 83, 3, (0, 0, 0, 0)), (91, .iload_n 1, 1, (0, 0, 0, 0)), (92, .aload 7, 2, (0, 0, 0, 0)), (94, .getfield 107, 3, (10, 1000, 2, 0)), (97, .invokevirtual 83, 3, (0, 0, 0, 0)), (100, .invokevirtual 108, 3, (0, 0, 0, 0)), (103, .aload 8, 2, (0, 0, 0, 0)), (105, .iload 4, 2, (0, 0, 0, 0)), (107, .iload 5, 2, (0, 0, 0, 0)), (109, .iload 6, 2, (0, 0, 0, 0)), (111, .invokevirtual 112, 3, (0, 0, 0, 0)), (114, .aload 7, 2, (0, 0, 0, 0)), (116, .getfield 107, 3, (10, 1000, 2, 0)), (119, .aload 8, 2, (0, 0, 0, 0)), (121, .invokevirtual 115, 3, (0, 0, 0, 0)), (124, .pop, 1, (0, 0, 0, 0)), (125, .aload_n 0, 1, (0, 0, 0, 0)), (126, .getfield 33, 3, (12, 1203, 2, 0)), (129, .aload 8, 2, (0, 0, 0, 0)), (131, .invokevirtual 115, 3, (0, 0, 0, 0)), (134, .pop, 1, (0, 0, 0, 0)), (135, .aload 8, 2, (0, 0, 0, 0)), (137, .getfield 119, 3, (3, 302, 0, 0)), (140, .ireturn, 1, (0, 0, 0, 0))]
set_option maxRecDepth 100000 in
theorem tk_X11_box : TOK RX11 false cX11_box tb_X11_box := chkT_ok ft_X11 (by decide +kernel)
theorem rw_X11_713 : Row RX11 (.invokestatic 89) 3 1 0 0 1 sp_X11_isWard := row_S c_X11_isWard ⟨TBL_in 534 (by decide +kernel) rfl, TBL_in 536 (by decide +kernel) rfl, TBL_in 111 (by decide +kernel) rfl, by decide +kernel, by decide⟩ (TBL_in 535 (by decide +kernel) rfl)
theorem rw_X11_745 : Row RX11 (.invokestatic 93) 3 2 0 0 1 sp_X11_isPlace := row_S c_X11_isPlace ⟨TBL_in 537 (by decide +kernel) rfl, TBL_in 539 (by decide +kernel) rfl, TBL_in 111 (by decide +kernel) rfl, by decide +kernel, by decide⟩ (TBL_in 538 (by decide +kernel) rfl)
theorem rw_X11_777 : Row RX11 (.invokestatic 97) 3 1 0 0 2 sp_X11_isBoxNumber := row_S c_X11_isBoxNumber ⟨TBL_in 540 (by decide +kernel) rfl, TBL_in 542 (by decide +kernel) rfl, TBL_in 111 (by decide +kernel) rfl, by decide +kernel, by decide⟩ (TBL_in 541 (by decide +kernel) rfl)
theorem rw_X11_800 : Row RX11 (.invokevirtual 100) 3 2 0 0 4 sp_X9_hasRoomFor := row_V (n := 1) (ci := 9) c_X9_hasRoomFor ⟨TBL_in 546 (by decide +kernel) rfl, TBL_in 549 (by decide +kernel) rfl, TBL_in 122 (by decide +kernel) rfl, by decide +kernel, by decide⟩ (by decide) rfl (TBL_in 547 (by decide +kernel) rfl) (TBL_in 548 (by decide +kernel) rfl) rc_X9_hasRoomFor
theorem rw_X11_842 : Row RX11 (.invokespecial 105) 3 3 0 0 3 sp_X2_init := row_I (n := 2) c_X2_init ⟨TBL_in 552 (by decide +kernel) rfl, TBL_in 554 (by decide +kernel) rfl, TBL_in 126 (by decide +kernel) rfl, by decide +kernel, by decide⟩ (TBL_in 553 (by decide +kernel) rfl) rfl (rcn_X2_init)
theorem rw_X11_864 : Row RX11 (.invokevirtual 108) 3 4 0 0 1 sp_X2_hang := row_V (n := 3) (ci := 2) c_X2_hang ⟨TBL_in 623 (by decide +kernel) rfl, TBL_in 626 (by decide +kernel) rfl, TBL_in 126 (by decide +kernel) rfl, by decide +kernel, by decide⟩ (by decide) rfl (TBL_in 624 (by decide +kernel) rfl) (TBL_in 625 (by decide +kernel) rfl) rc_X2_hang
theorem rw_X11_896 : Row RX11 (.invokevirtual 112) 3 4 0 0 1 sp_X2_stand := row_V (n := 3) (ci := 2) c_X2_stand ⟨TBL_in 627 (by decide +kernel) rfl, TBL_in 630 (by decide +kernel) rfl, TBL_in 126 (by decide +kernel) rfl, by decide +kernel, by decide⟩ (by decide) rfl (TBL_in 628 (by decide +kernel) rfl) (TBL_in 629 (by decide +kernel) rfl) rc_X2_stand
theorem rw_X11_920 : Row RX11 (.invokevirtual 115) 3 2 1 150 7 sp_Jx4a65c_add_9ea2d := row_V (n := 1) (ci := 13) c_Jx4a65c_add_9ea2d ⟨TBL_in 631 (by decide +kernel) rfl, TBL_in 634 (by decide +kernel) rfl, TBL_in 115 (by decide +kernel) rfl, by decide +kernel, by decide⟩ (by decide) rfl (TBL_in 632 (by decide +kernel) rfl) (TBL_in 633 (by decide +kernel) rfl) rc_Jx4a65c_add_9ea2d
def mt_X11_box : List (Nat × Mt) := [(632, 2, 0, 0, 1, sp_X11_loopOf), (664, 1, 0, 0, 1, sp_Jx4a65c_size_8abf5), (713, 1, 0, 0, 1, sp_X11_isWard), (745, 2, 0, 0, 1, sp_X11_isPlace), (777, 1, 0, 0, 2, sp_X11_isBoxNumber), (800, 2, 0, 0, 4, sp_X9_hasRoomFor), (842, 3, 0, 0, 3, sp_X2_init), (864, 4, 0, 0, 1, sp_X2_hang), (896, 4, 0, 0, 1, sp_X2_stand), (920, 2, 1, 150, 7, sp_Jx4a65c_add_9ea2d)]
theorem em_X11_box : mt_X11_box.lookup 632 = some (2, 0, 0, 1, sp_X11_loopOf) ∧ mt_X11_box.lookup 664 = some (1, 0, 0, 1, sp_Jx4a65c_size_8abf5) ∧ mt_X11_box.lookup 713 = some (1, 0, 0, 1, sp_X11_isWard) ∧ mt_X11_box.lookup 745 = some (2, 0, 0, 1, sp_X11_isPlace) ∧ mt_X11_box.lookup 777 = some (1, 0, 0, 2, sp_X11_isBoxNumber) ∧ mt_X11_box.lookup 800 = some (2, 0, 0, 4, sp_X9_hasRoomFor) ∧ mt_X11_box.lookup 842 = some (3, 0, 0, 3, sp_X2_init) ∧ mt_X11_box.lookup 864 = some (4, 0, 0, 1, sp_X2_hang) ∧ mt_X11_box.lookup 896 = some (4, 0, 0, 1, sp_X2_stand) ∧ mt_X11_box.lookup 920 = some (2, 1, 150, 7, sp_Jx4a65c_add_9ea2d) := ⟨rfl, rfl, rfl, rfl, rfl, rfl, rfl, rfl, rfl, rfl⟩
theorem mk_X11_box : MOK RX11 mt_X11_box := by
  intro q hq
  simp only [mt_X11_box, List.mem_cons, List.not_mem_nil, or_false] at hq
  rcases hq with rfl | rfl | rfl | rfl | rfl | rfl | rfl | rfl | rfl | rfl
  · exact rw_X11_632
  · exact rw_X11_664
  · exact rw_X11_713
  · exact rw_X11_745
  · exact rw_X11_777
  · exact rw_X11_800
  · exact rw_X11_842
  · exact rw_X11_864
  · exact rw_X11_896
  · exact rw_X11_920
noncomputable def xe_X11_box (ct : Nat → Bool) (K : Kt) (R : Option AV → Hp → Prop) (n : Nat) : Kt := exS 9 8 3 314 1 tb_X11_box mt_X11_box ct K R n
noncomputable def xk_X11_box (ct : Nat → Bool) (K : Kt) (R : Option AV → Hp → Prop) (n : Nat) : Kt := exkS 9 8 3 314 1 tb_X11_box mt_X11_box ct K R n
theorem xt_X11_box {ct : Nat → Bool} {K : Kt} {R : Option AV → Hp → Prop} {n pc : Nat} {ls : List (Option AV)} {st : List AV} {σ : Hp} {k : Nat × Nat} (h : ct pc = true) : xk_X11_box ct K R n pc ls st σ k = K pc ls st σ k := by unfold xk_X11_box exkS; rw [h]
theorem xf_X11_box {ct : Nat → Bool} {K : Kt} {R : Option AV → Hp → Prop} {n pc : Nat} {ls : List (Option AV)} {st : List AV} {σ : Hp} {k : Nat × Nat} (h : ct pc = false) : xk_X11_box ct K R n pc ls st σ k = xe_X11_box ct K R n pc ls st σ k := by unfold xk_X11_box exkS xe_X11_box; rw [h]
theorem ev_X11_box_0 {ct : Nat → Bool} {K : Kt} {R : Option AV → Hp → Prop} {n : Nat} {ls : List (Option AV)} {st : List AV} {σ : Hp} {k : Nat × Nat} : xe_X11_box ct K R (n + 1) 0 ls st σ k = (lR ls 0 fun x => xk_X11_box ct K R n 1 ls (vr x :: st) σ k) := exS_step.trans rfl
theorem ev_X11_box_1 {ct : Nat → Bool} {K : Kt} {R : Option AV → Hp → Prop} {n : Nat} {ls : List (Option AV)} {st : List AV} {σ : Hp} {k : Nat × Nat} : xe_X11_box ct K R (n + 1) 1 ls st σ k = (lI ls 1 fun x => xk_X11_box ct K R n 2 ls (vi x :: st) σ k) := exS_step.trans rfl
theorem ev_X11_box_2 {ct : Nat → Bool} {K : Kt} {R : Option AV → Hp → Prop} {n : Nat} {ls : List (Option AV)} {st : List AV} {σ : Hp} {k : Nat × Nat} : xe_X11_box ct K R (n + 1) 2 ls st σ k = (popN 2 st [] fun av rest => (catS rest ≤ 8 ∧ 1 < 8 ∧ k.1 + 0 ≤ 3 ∧ k.2 + 0 ≤ 314) ∧ (sp_X11_loopOf) av σ fun v σ' => xk_X11_box ct K R n 5 ls (v.toList ++ rest) σ' (k.1 + 0, k.2 + 0)) := exS_step.trans rfl
theorem ev_X11_box_5 {ct : Nat → Bool} {K : Kt} {R : Option AV → Hp → Prop} {n : Nat} {ls : List (Option AV)} {st : List AV} {σ : Hp} {k : Nat × Nat} : xe_X11_box ct K R (n + 1) 5 ls st σ k = (oR st fun x st => 7 < 9 ∧ xk_X11_box ct K R n 7 (stL ls 7 (vr x)) st σ k) := exS_step.trans rfl
theorem ev_X11_box_7 {ct : Nat → Bool} {K : Kt} {R : Option AV → Hp → Prop} {n : Nat} {ls : List (Option AV)} {st : List AV} {σ : Hp} {k : Nat × Nat} : xe_X11_box ct K R (n + 1) 7 ls st σ k = (lR ls 7 fun x => xk_X11_box ct K R n 9 ls (vr x :: st) σ k) := exS_step.trans rfl
theorem ev_X11_box_9 {ct : Nat → Bool} {K : Kt} {R : Option AV → Hp → Prop} {n : Nat} {ls : List (Option AV)} {st : List AV} {σ : Hp} {k : Nat × Nat} : xe_X11_box ct K R (n + 1) 9 ls st σ k = (oR st fun x st => (x = 0 → xk_X11_box ct K R n 42 ls st σ k) ∧ (¬ x = 0 → xk_X11_box ct K R n 12 ls st σ k)) := exS_step.trans rfl
theorem ev_X11_box_12 {ct : Nat → Bool} {K : Kt} {R : Option AV → Hp → Prop} {n : Nat} {ls : List (Option AV)} {st : List AV} {σ : Hp} {k : Nat × Nat} : xe_X11_box ct K R (n + 1) 12 ls st σ k = (lR ls 0 fun x => xk_X11_box ct K R n 13 ls (vr x :: st) σ k) := exS_step.trans rfl
theorem ev_X11_box_13 {ct : Nat → Bool} {K : Kt} {R : Option AV → Hp → Prop} {n : Nat} {ls : List (Option AV)} {st : List AV} {σ : Hp} {k : Nat × Nat} : xe_X11_box ct K R (n + 1) 13 ls st σ k = (oR st fun x st => kd σ x = 12 ∧ xk_X11_box ct K R n 16 ls (vr (fR σ 1203 x) :: st) σ k) := exS_step.trans rfl
theorem ev_X11_box_16 {ct : Nat → Bool} {K : Kt} {R : Option AV → Hp → Prop} {n : Nat} {ls : List (Option AV)} {st : List AV} {σ : Hp} {k : Nat × Nat} : xe_X11_box ct K R (n + 1) 16 ls st σ k = (popN 1 st [] fun av rest => (catS rest ≤ 8 ∧ 1 < 8 ∧ k.1 + 0 ≤ 3 ∧ k.2 + 0 ≤ 314) ∧ (sp_Jx4a65c_size_8abf5) av σ fun v σ' => xk_X11_box ct K R n 19 ls (v.toList ++ rest) σ' (k.1 + 0, k.2 + 0)) := exS_step.trans rfl
theorem ev_X11_box_19 {ct : Nat → Bool} {K : Kt} {R : Option AV → Hp → Prop} {n : Nat} {ls : List (Option AV)} {st : List AV} {σ : Hp} {k : Nat × Nat} : xe_X11_box ct K R (n + 1) 19 ls st σ k = (xk_X11_box ct K R n 21 ls (vi (32) :: st) σ k) := exS_step.trans rfl
theorem ev_X11_box_21 {ct : Nat → Bool} {K : Kt} {R : Option AV → Hp → Prop} {n : Nat} {ls : List (Option AV)} {st : List AV} {σ : Hp} {k : Nat × Nat} : xe_X11_box ct K R (n + 1) 21 ls st σ k = (oI st fun y st => oI st fun x st => (wI y ≤ wI x → xk_X11_box ct K R n 42 ls st σ k) ∧ (¬ (wI y ≤ wI x) → xk_X11_box ct K R n 24 ls st σ k)) := exS_step.trans rfl
theorem ev_X11_box_24 {ct : Nat → Bool} {K : Kt} {R : Option AV → Hp → Prop} {n : Nat} {ls : List (Option AV)} {st : List AV} {σ : Hp} {k : Nat × Nat} : xe_X11_box ct K R (n + 1) 24 ls st σ k = (lI ls 6 fun x => xk_X11_box ct K R n 26 ls (vi x :: st) σ k) := exS_step.trans rfl
theorem ev_X11_box_26 {ct : Nat → Bool} {K : Kt} {R : Option AV → Hp → Prop} {n : Nat} {ls : List (Option AV)} {st : List AV} {σ : Hp} {k : Nat × Nat} : xe_X11_box ct K R (n + 1) 26 ls st σ k = (popN 1 st [] fun av rest => (catS rest ≤ 8 ∧ 1 < 8 ∧ k.1 + 0 ≤ 3 ∧ k.2 + 0 ≤ 314) ∧ (sp_X11_isWard) av σ fun v σ' => xk_X11_box ct K R n 29 ls (v.toList ++ rest) σ' (k.1 + 0, k.2 + 0)) := exS_step.trans rfl
theorem ev_X11_box_29 {ct : Nat → Bool} {K : Kt} {R : Option AV → Hp → Prop} {n : Nat} {ls : List (Option AV)} {st : List AV} {σ : Hp} {k : Nat × Nat} : xe_X11_box ct K R (n + 1) 29 ls st σ k = (oI st fun x st => (wI x = wI 0 → xk_X11_box ct K R n 42 ls st σ k) ∧ (¬ (wI x = wI 0) → xk_X11_box ct K R n 32 ls st σ k)) := exS_step.trans rfl
theorem ev_X11_box_32 {ct : Nat → Bool} {K : Kt} {R : Option AV → Hp → Prop} {n : Nat} {ls : List (Option AV)} {st : List AV} {σ : Hp} {k : Nat × Nat} : xe_X11_box ct K R (n + 1) 32 ls st σ k = (lI ls 4 fun x => xk_X11_box ct K R n 34 ls (vi x :: st) σ k) := exS_step.trans rfl
theorem ev_X11_box_34 {ct : Nat → Bool} {K : Kt} {R : Option AV → Hp → Prop} {n : Nat} {ls : List (Option AV)} {st : List AV} {σ : Hp} {k : Nat × Nat} : xe_X11_box ct K R (n + 1) 34 ls st σ k = (lI ls 5 fun x => xk_X11_box ct K R n 36 ls (vi x :: st) σ k) := exS_step.trans rfl
theorem ev_X11_box_36 {ct : Nat → Bool} {K : Kt} {R : Option AV → Hp → Prop} {n : Nat} {ls : List (Option AV)} {st : List AV} {σ : Hp} {k : Nat × Nat} : xe_X11_box ct K R (n + 1) 36 ls st σ k = (popN 2 st [] fun av rest => (catS rest ≤ 8 ∧ 1 < 8 ∧ k.1 + 0 ≤ 3 ∧ k.2 + 0 ≤ 314) ∧ (sp_X11_isPlace) av σ fun v σ' => xk_X11_box ct K R n 39 ls (v.toList ++ rest) σ' (k.1 + 0, k.2 + 0)) := exS_step.trans rfl
theorem ev_X11_box_39 {ct : Nat → Bool} {K : Kt} {R : Option AV → Hp → Prop} {n : Nat} {ls : List (Option AV)} {st : List AV} {σ : Hp} {k : Nat × Nat} : xe_X11_box ct K R (n + 1) 39 ls st σ k = (oI st fun x st => (¬ wI x = wI 0 → xk_X11_box ct K R n 44 ls st σ k) ∧ (¬ (¬ wI x = wI 0) → xk_X11_box ct K R n 42 ls st σ k)) := exS_step.trans rfl
theorem ev_X11_box_42 {ct : Nat → Bool} {K : Kt} {R : Option AV → Hp → Prop} {n : Nat} {ls : List (Option AV)} {st : List AV} {σ : Hp} {k : Nat × Nat} : xe_X11_box ct K R (n + 1) 42 ls st σ k = (xk_X11_box ct K R n 43 ls (vi (-1) :: st) σ k) := exS_step.trans rfl
theorem ev_X11_box_43 {ct : Nat → Bool} {K : Kt} {R : Option AV → Hp → Prop} {n : Nat} {ls : List (Option AV)} {st : List AV} {σ : Hp} {k : Nat × Nat} : xe_X11_box ct K R (n + 1) 43 ls st σ k = (oI st fun x st => st = [] ∧ True ∧ R (some (vi x)) σ) := exS_step.trans rfl
theorem ev_X11_box_44 {ct : Nat → Bool} {K : Kt} {R : Option AV → Hp → Prop} {n : Nat} {ls : List (Option AV)} {st : List AV} {σ : Hp} {k : Nat × Nat} : xe_X11_box ct K R (n + 1) 44 ls st σ k = (lI ls 2 fun x => xk_X11_box ct K R n 45 ls (vi x :: st) σ k) := exS_step.trans rfl
theorem ev_X11_box_45 {ct : Nat → Bool} {K : Kt} {R : Option AV → Hp → Prop} {n : Nat} {ls : List (Option AV)} {st : List AV} {σ : Hp} {k : Nat × Nat} : xe_X11_box ct K R (n + 1) 45 ls st σ k = (popN 1 st [] fun av rest => (catS rest ≤ 8 ∧ 2 < 8 ∧ k.1 + 0 ≤ 3 ∧ k.2 + 0 ≤ 314) ∧ (sp_X11_isBoxNumber) av σ fun v σ' => xk_X11_box ct K R n 48 ls (v.toList ++ rest) σ' (k.1 + 0, k.2 + 0)) := exS_step.trans rfl
theorem ev_X11_box_48 {ct : Nat → Bool} {K : Kt} {R : Option AV → Hp → Prop} {n : Nat} {ls : List (Option AV)} {st : List AV} {σ : Hp} {k : Nat × Nat} : xe_X11_box ct K R (n + 1) 48 ls st σ k = (oI st fun x st => (wI x = wI 0 → xk_X11_box ct K R n 69 ls st σ k) ∧ (¬ (wI x = wI 0) → xk_X11_box ct K R n 51 ls st σ k)) := exS_step.trans rfl
theorem ev_X11_box_51 {ct : Nat → Bool} {K : Kt} {R : Option AV → Hp → Prop} {n : Nat} {ls : List (Option AV)} {st : List AV} {σ : Hp} {k : Nat × Nat} : xe_X11_box ct K R (n + 1) 51 ls st σ k = (lI ls 3 fun x => xk_X11_box ct K R n 52 ls (vi x :: st) σ k) := exS_step.trans rfl
theorem ev_X11_box_52 {ct : Nat → Bool} {K : Kt} {R : Option AV → Hp → Prop} {n : Nat} {ls : List (Option AV)} {st : List AV} {σ : Hp} {k : Nat × Nat} : xe_X11_box ct K R (n + 1) 52 ls st σ k = (oI st fun x st => (wI x < wI 0 → xk_X11_box ct K R n 69 ls st σ k) ∧ (¬ (wI x < wI 0) → xk_X11_box ct K R n 55 ls st σ k)) := exS_step.trans rfl
theorem ev_X11_box_55 {ct : Nat → Bool} {K : Kt} {R : Option AV → Hp → Prop} {n : Nat} {ls : List (Option AV)} {st : List AV} {σ : Hp} {k : Nat × Nat} : xe_X11_box ct K R (n + 1) 55 ls st σ k = (lI ls 3 fun x => xk_X11_box ct K R n 56 ls (vi x :: st) σ k) := exS_step.trans rfl
theorem ev_X11_box_56 {ct : Nat → Bool} {K : Kt} {R : Option AV → Hp → Prop} {n : Nat} {ls : List (Option AV)} {st : List AV} {σ : Hp} {k : Nat × Nat} : xe_X11_box ct K R (n + 1) 56 ls st σ k = (xk_X11_box ct K R n 57 ls (vi (1) :: st) σ k) := exS_step.trans rfl
theorem ev_X11_box_57 {ct : Nat → Bool} {K : Kt} {R : Option AV → Hp → Prop} {n : Nat} {ls : List (Option AV)} {st : List AV} {σ : Hp} {k : Nat × Nat} : xe_X11_box ct K R (n + 1) 57 ls st σ k = (oI st fun y st => oI st fun x st => (wI y < wI x → xk_X11_box ct K R n 69 ls st σ k) ∧ (¬ (wI y < wI x) → xk_X11_box ct K R n 60 ls st σ k)) := exS_step.trans rfl
theorem ev_X11_box_60 {ct : Nat → Bool} {K : Kt} {R : Option AV → Hp → Prop} {n : Nat} {ls : List (Option AV)} {st : List AV} {σ : Hp} {k : Nat × Nat} : xe_X11_box ct K R (n + 1) 60 ls st σ k = (lR ls 7 fun x => xk_X11_box ct K R n 62 ls (vr x :: st) σ k) := exS_step.trans rfl
theorem ev_X11_box_62 {ct : Nat → Bool} {K : Kt} {R : Option AV → Hp → Prop} {n : Nat} {ls : List (Option AV)} {st : List AV} {σ : Hp} {k : Nat × Nat} : xe_X11_box ct K R (n + 1) 62 ls st σ k = (lI ls 2 fun x => xk_X11_box ct K R n 63 ls (vi x :: st) σ k) := exS_step.trans rfl
theorem ev_X11_box_63 {ct : Nat → Bool} {K : Kt} {R : Option AV → Hp → Prop} {n : Nat} {ls : List (Option AV)} {st : List AV} {σ : Hp} {k : Nat × Nat} : xe_X11_box ct K R (n + 1) 63 ls st σ k = (popN 2 st [] fun av rest => (catS rest ≤ 8 ∧ 4 < 8 ∧ k.1 + 0 ≤ 3 ∧ k.2 + 0 ≤ 314) ∧ (sp_X9_hasRoomFor) av σ fun v σ' => xk_X11_box ct K R n 66 ls (v.toList ++ rest) σ' (k.1 + 0, k.2 + 0)) := exS_step.trans rfl
theorem ev_X11_box_66 {ct : Nat → Bool} {K : Kt} {R : Option AV → Hp → Prop} {n : Nat} {ls : List (Option AV)} {st : List AV} {σ : Hp} {k : Nat × Nat} : xe_X11_box ct K R (n + 1) 66 ls st σ k = (oI st fun x st => (¬ wI x = wI 0 → xk_X11_box ct K R n 71 ls st σ k) ∧ (¬ (¬ wI x = wI 0) → xk_X11_box ct K R n 69 ls st σ k)) := exS_step.trans rfl
theorem ev_X11_box_69 {ct : Nat → Bool} {K : Kt} {R : Option AV → Hp → Prop} {n : Nat} {ls : List (Option AV)} {st : List AV} {σ : Hp} {k : Nat × Nat} : xe_X11_box ct K R (n + 1) 69 ls st σ k = (xk_X11_box ct K R n 70 ls (vi (-1) :: st) σ k) := exS_step.trans rfl
theorem ev_X11_box_70 {ct : Nat → Bool} {K : Kt} {R : Option AV → Hp → Prop} {n : Nat} {ls : List (Option AV)} {st : List AV} {σ : Hp} {k : Nat × Nat} : xe_X11_box ct K R (n + 1) 70 ls st σ k = (oI st fun x st => st = [] ∧ True ∧ R (some (vi x)) σ) := exS_step.trans rfl
theorem ev_X11_box_71 {ct : Nat → Bool} {K : Kt} {R : Option AV → Hp → Prop} {n : Nat} {ls : List (Option AV)} {st : List AV} {σ : Hp} {k : Nat × Nat} : xe_X11_box ct K R (n + 1) 71 ls st σ k = ((k.1 + 1 ≤ 3 ∧ k.2 + 14 ≤ 314) ∧ xk_X11_box ct K R n 74 ls (vr (nx σ) :: st) (mk σ 3 0) (k.1 + 1, k.2 + 14)) := exS_step.trans rfl
theorem ev_X11_box_74 {ct : Nat → Bool} {K : Kt} {R : Option AV → Hp → Prop} {n : Nat} {ls : List (Option AV)} {st : List AV} {σ : Hp} {k : Nat × Nat} : xe_X11_box ct K R (n + 1) 74 ls st σ k = (o1 st fun v st => xk_X11_box ct K R n 75 ls (v :: v :: st) σ k) := exS_step.trans rfl
theorem ev_X11_box_75 {ct : Nat → Bool} {K : Kt} {R : Option AV → Hp → Prop} {n : Nat} {ls : List (Option AV)} {st : List AV} {σ : Hp} {k : Nat × Nat} : xe_X11_box ct K R (n + 1) 75 ls st σ k = (lI ls 2 fun x => xk_X11_box ct K R n 76 ls (vi x :: st) σ k) := exS_step.trans rfl
theorem ev_X11_box_76 {ct : Nat → Bool} {K : Kt} {R : Option AV → Hp → Prop} {n : Nat} {ls : List (Option AV)} {st : List AV} {σ : Hp} {k : Nat × Nat} : xe_X11_box ct K R (n + 1) 76 ls st σ k = (lI ls 3 fun x => xk_X11_box ct K R n 77 ls (vi x :: st) σ k) := exS_step.trans rfl
theorem ev_X11_box_77 {ct : Nat → Bool} {K : Kt} {R : Option AV → Hp → Prop} {n : Nat} {ls : List (Option AV)} {st : List AV} {σ : Hp} {k : Nat × Nat} : xe_X11_box ct K R (n + 1) 77 ls st σ k = (popN 3 st [] fun av rest => (catS rest ≤ 8 ∧ 3 < 8 ∧ k.1 + 0 ≤ 3 ∧ k.2 + 0 ≤ 314) ∧ (sp_X2_init) av σ fun v σ' => xk_X11_box ct K R n 80 ls (v.toList ++ rest) σ' (k.1 + 0, k.2 + 0)) := exS_step.trans rfl
theorem ev_X11_box_80 {ct : Nat → Bool} {K : Kt} {R : Option AV → Hp → Prop} {n : Nat} {ls : List (Option AV)} {st : List AV} {σ : Hp} {k : Nat × Nat} : xe_X11_box ct K R (n + 1) 80 ls st σ k = (oR st fun x st => 8 < 9 ∧ xk_X11_box ct K R n 82 (stL ls 8 (vr x)) st σ k) := exS_step.trans rfl
theorem ev_X11_box_82 {ct : Nat → Bool} {K : Kt} {R : Option AV → Hp → Prop} {n : Nat} {ls : List (Option AV)} {st : List AV} {σ : Hp} {k : Nat × Nat} : xe_X11_box ct K R (n + 1) 82 ls st σ k = (lR ls 8 fun x => xk_X11_box ct K R n 84 ls (vr x :: st) σ k) := exS_step.trans rfl
theorem ev_X11_box_84 {ct : Nat → Bool} {K : Kt} {R : Option AV → Hp → Prop} {n : Nat} {ls : List (Option AV)} {st : List AV} {σ : Hp} {k : Nat × Nat} : xe_X11_box ct K R (n + 1) 84 ls st σ k = (lR ls 0 fun x => xk_X11_box ct K R n 85 ls (vr x :: st) σ k) := exS_step.trans rfl
theorem ev_X11_box_85 {ct : Nat → Bool} {K : Kt} {R : Option AV → Hp → Prop} {n : Nat} {ls : List (Option AV)} {st : List AV} {σ : Hp} {k : Nat × Nat} : xe_X11_box ct K R (n + 1) 85 ls st σ k = (oR st fun x st => kd σ x = 12 ∧ xk_X11_box ct K R n 88 ls (vr (fR σ 1203 x) :: st) σ k) := exS_step.trans rfl
theorem ev_X11_box_88 {ct : Nat → Bool} {K : Kt} {R : Option AV → Hp → Prop} {n : Nat} {ls : List (Option AV)} {st : List AV} {σ : Hp} {k : Nat × Nat} : xe_X11_box ct K R (n + 1) 88 ls st σ k = (popN 1 st [] fun av rest => (catS rest ≤ 8 ∧ 1 < 8 ∧ k.1 + 0 ≤ 3 ∧ k.2 + 0 ≤ 314) ∧ (sp_Jx4a65c_size_8abf5) av σ fun v σ' => xk_X11_box ct K R n 91 ls (v.toList ++ rest) σ' (k.1 + 0, k.2 + 0)) := exS_step.trans rfl
theorem ev_X11_box_91 {ct : Nat → Bool} {K : Kt} {R : Option AV → Hp → Prop} {n : Nat} {ls : List (Option AV)} {st : List AV} {σ : Hp} {k : Nat × Nat} : xe_X11_box ct K R (n + 1) 91 ls st σ k = (lI ls 1 fun x => xk_X11_box ct K R n 92 ls (vi x :: st) σ k) := exS_step.trans rfl
theorem ev_X11_box_92 {ct : Nat → Bool} {K : Kt} {R : Option AV → Hp → Prop} {n : Nat} {ls : List (Option AV)} {st : List AV} {σ : Hp} {k : Nat × Nat} : xe_X11_box ct K R (n + 1) 92 ls st σ k = (lR ls 7 fun x => xk_X11_box ct K R n 94 ls (vr x :: st) σ k) := exS_step.trans rfl
theorem ev_X11_box_94 {ct : Nat → Bool} {K : Kt} {R : Option AV → Hp → Prop} {n : Nat} {ls : List (Option AV)} {st : List AV} {σ : Hp} {k : Nat × Nat} : xe_X11_box ct K R (n + 1) 94 ls st σ k = (oR st fun x st => kd σ x = 10 ∧ xk_X11_box ct K R n 97 ls (vr (fR σ 1000 x) :: st) σ k) := exS_step.trans rfl
theorem ev_X11_box_97 {ct : Nat → Bool} {K : Kt} {R : Option AV → Hp → Prop} {n : Nat} {ls : List (Option AV)} {st : List AV} {σ : Hp} {k : Nat × Nat} : xe_X11_box ct K R (n + 1) 97 ls st σ k = (popN 1 st [] fun av rest => (catS rest ≤ 8 ∧ 1 < 8 ∧ k.1 + 0 ≤ 3 ∧ k.2 + 0 ≤ 314) ∧ (sp_Jx4a65c_size_8abf5) av σ fun v σ' => xk_X11_box ct K R n 100 ls (v.toList ++ rest) σ' (k.1 + 0, k.2 + 0)) := exS_step.trans rfl
theorem ev_X11_box_100 {ct : Nat → Bool} {K : Kt} {R : Option AV → Hp → Prop} {n : Nat} {ls : List (Option AV)} {st : List AV} {σ : Hp} {k : Nat × Nat} : xe_X11_box ct K R (n + 1) 100 ls st σ k = (popN 4 st [] fun av rest => (catS rest ≤ 8 ∧ 1 < 8 ∧ k.1 + 0 ≤ 3 ∧ k.2 + 0 ≤ 314) ∧ (sp_X2_hang) av σ fun v σ' => xk_X11_box ct K R n 103 ls (v.toList ++ rest) σ' (k.1 + 0, k.2 + 0)) := exS_step.trans rfl
theorem ev_X11_box_103 {ct : Nat → Bool} {K : Kt} {R : Option AV → Hp → Prop} {n : Nat} {ls : List (Option AV)} {st : List AV} {σ : Hp} {k : Nat × Nat} : xe_X11_box ct K R (n + 1) 103 ls st σ k = (lR ls 8 fun x => xk_X11_box ct K R n 105 ls (vr x :: st) σ k) := exS_step.trans rfl
theorem ev_X11_box_105 {ct : Nat → Bool} {K : Kt} {R : Option AV → Hp → Prop} {n : Nat} {ls : List (Option AV)} {st : List AV} {σ : Hp} {k : Nat × Nat} : xe_X11_box ct K R (n + 1) 105 ls st σ k = (lI ls 4 fun x => xk_X11_box ct K R n 107 ls (vi x :: st) σ k) := exS_step.trans rfl
theorem ev_X11_box_107 {ct : Nat → Bool} {K : Kt} {R : Option AV → Hp → Prop} {n : Nat} {ls : List (Option AV)} {st : List AV} {σ : Hp} {k : Nat × Nat} : xe_X11_box ct K R (n + 1) 107 ls st σ k = (lI ls 5 fun x => xk_X11_box ct K R n 109 ls (vi x :: st) σ k) := exS_step.trans rfl
theorem ev_X11_box_109 {ct : Nat → Bool} {K : Kt} {R : Option AV → Hp → Prop} {n : Nat} {ls : List (Option AV)} {st : List AV} {σ : Hp} {k : Nat × Nat} : xe_X11_box ct K R (n + 1) 109 ls st σ k = (lI ls 6 fun x => xk_X11_box ct K R n 111 ls (vi x :: st) σ k) := exS_step.trans rfl
theorem ev_X11_box_111 {ct : Nat → Bool} {K : Kt} {R : Option AV → Hp → Prop} {n : Nat} {ls : List (Option AV)} {st : List AV} {σ : Hp} {k : Nat × Nat} : xe_X11_box ct K R (n + 1) 111 ls st σ k = (popN 4 st [] fun av rest => (catS rest ≤ 8 ∧ 1 < 8 ∧ k.1 + 0 ≤ 3 ∧ k.2 + 0 ≤ 314) ∧ (sp_X2_stand) av σ fun v σ' => xk_X11_box ct K R n 114 ls (v.toList ++ rest) σ' (k.1 + 0, k.2 + 0)) := exS_step.trans rfl
theorem ev_X11_box_114 {ct : Nat → Bool} {K : Kt} {R : Option AV → Hp → Prop} {n : Nat} {ls : List (Option AV)} {st : List AV} {σ : Hp} {k : Nat × Nat} : xe_X11_box ct K R (n + 1) 114 ls st σ k = (lR ls 7 fun x => xk_X11_box ct K R n 116 ls (vr x :: st) σ k) := exS_step.trans rfl
theorem ev_X11_box_116 {ct : Nat → Bool} {K : Kt} {R : Option AV → Hp → Prop} {n : Nat} {ls : List (Option AV)} {st : List AV} {σ : Hp} {k : Nat × Nat} : xe_X11_box ct K R (n + 1) 116 ls st σ k = (oR st fun x st => kd σ x = 10 ∧ xk_X11_box ct K R n 119 ls (vr (fR σ 1000 x) :: st) σ k) := exS_step.trans rfl
theorem ev_X11_box_119 {ct : Nat → Bool} {K : Kt} {R : Option AV → Hp → Prop} {n : Nat} {ls : List (Option AV)} {st : List AV} {σ : Hp} {k : Nat × Nat} : xe_X11_box ct K R (n + 1) 119 ls st σ k = (lR ls 8 fun x => xk_X11_box ct K R n 121 ls (vr x :: st) σ k) := exS_step.trans rfl
theorem ev_X11_box_121 {ct : Nat → Bool} {K : Kt} {R : Option AV → Hp → Prop} {n : Nat} {ls : List (Option AV)} {st : List AV} {σ : Hp} {k : Nat × Nat} : xe_X11_box ct K R (n + 1) 121 ls st σ k = (popN 2 st [] fun av rest => (catS rest ≤ 8 ∧ 7 < 8 ∧ k.1 + 1 ≤ 3 ∧ k.2 + 150 ≤ 314) ∧ (sp_Jx4a65c_add_9ea2d) av σ fun v σ' => xk_X11_box ct K R n 124 ls (v.toList ++ rest) σ' (k.1 + 1, k.2 + 150)) := exS_step.trans rfl
theorem ev_X11_box_124 {ct : Nat → Bool} {K : Kt} {R : Option AV → Hp → Prop} {n : Nat} {ls : List (Option AV)} {st : List AV} {σ : Hp} {k : Nat × Nat} : xe_X11_box ct K R (n + 1) 124 ls st σ k = (o1 st fun _ st => xk_X11_box ct K R n 125 ls st σ k) := exS_step.trans rfl
theorem ev_X11_box_125 {ct : Nat → Bool} {K : Kt} {R : Option AV → Hp → Prop} {n : Nat} {ls : List (Option AV)} {st : List AV} {σ : Hp} {k : Nat × Nat} : xe_X11_box ct K R (n + 1) 125 ls st σ k = (lR ls 0 fun x => xk_X11_box ct K R n 126 ls (vr x :: st) σ k) := exS_step.trans rfl
theorem ev_X11_box_126 {ct : Nat → Bool} {K : Kt} {R : Option AV → Hp → Prop} {n : Nat} {ls : List (Option AV)} {st : List AV} {σ : Hp} {k : Nat × Nat} : xe_X11_box ct K R (n + 1) 126 ls st σ k = (oR st fun x st => kd σ x = 12 ∧ xk_X11_box ct K R n 129 ls (vr (fR σ 1203 x) :: st) σ k) := exS_step.trans rfl
theorem ev_X11_box_129 {ct : Nat → Bool} {K : Kt} {R : Option AV → Hp → Prop} {n : Nat} {ls : List (Option AV)} {st : List AV} {σ : Hp} {k : Nat × Nat} : xe_X11_box ct K R (n + 1) 129 ls st σ k = (lR ls 8 fun x => xk_X11_box ct K R n 131 ls (vr x :: st) σ k) := exS_step.trans rfl
theorem ev_X11_box_131 {ct : Nat → Bool} {K : Kt} {R : Option AV → Hp → Prop} {n : Nat} {ls : List (Option AV)} {st : List AV} {σ : Hp} {k : Nat × Nat} : xe_X11_box ct K R (n + 1) 131 ls st σ k = (popN 2 st [] fun av rest => (catS rest ≤ 8 ∧ 7 < 8 ∧ k.1 + 1 ≤ 3 ∧ k.2 + 150 ≤ 314) ∧ (sp_Jx4a65c_add_9ea2d) av σ fun v σ' => xk_X11_box ct K R n 134 ls (v.toList ++ rest) σ' (k.1 + 1, k.2 + 150)) := exS_step.trans rfl
theorem ev_X11_box_134 {ct : Nat → Bool} {K : Kt} {R : Option AV → Hp → Prop} {n : Nat} {ls : List (Option AV)} {st : List AV} {σ : Hp} {k : Nat × Nat} : xe_X11_box ct K R (n + 1) 134 ls st σ k = (o1 st fun _ st => xk_X11_box ct K R n 135 ls st σ k) := exS_step.trans rfl
theorem ev_X11_box_135 {ct : Nat → Bool} {K : Kt} {R : Option AV → Hp → Prop} {n : Nat} {ls : List (Option AV)} {st : List AV} {σ : Hp} {k : Nat × Nat} : xe_X11_box ct K R (n + 1) 135 ls st σ k = (lR ls 8 fun x => xk_X11_box ct K R n 137 ls (vr x :: st) σ k) := exS_step.trans rfl
theorem ev_X11_box_137 {ct : Nat → Bool} {K : Kt} {R : Option AV → Hp → Prop} {n : Nat} {ls : List (Option AV)} {st : List AV} {σ : Hp} {k : Nat × Nat} : xe_X11_box ct K R (n + 1) 137 ls st σ k = (oR st fun x st => kd σ x = 3 ∧ xk_X11_box ct K R n 140 ls (vi (fI σ 302 x) :: st) σ k) := exS_step.trans rfl
theorem ev_X11_box_140 {ct : Nat → Bool} {K : Kt} {R : Option AV → Hp → Prop} {n : Nat} {ls : List (Option AV)} {st : List AV} {σ : Hp} {k : Nat × Nat} : xe_X11_box ct K R (n + 1) 140 ls st σ k = (oI st fun x st => st = [] ∧ True ∧ R (some (vi x)) σ) := exS_step.trans rfl
def M_X11_box : Md := (yX11_box, cX11_box, 9, (some FieldType.int), 8, 3, 314, 1, false, tb_X11_box, mt_X11_box)
theorem mm_X11_box : MMOK M_X11_box := ⟨by decide +kernel, tk_X11_box, mk_X11_box, rfl, fun h => by cases h⟩
theorem go_X11_box {Q : Option AV → Hp → Prop} {ct : Nat → Bool} {pc : Nat} {ls : List (Option AV)} {st : List AV} {σ : Hp} {k : Nat × Nat} (n : Nat) (h : xe_X11_box ct (Go M_X11_box Q) Q n pc ls st σ k) : Go M_X11_box Q pc ls st σ k := Go.exS mm_X11_box h

set_option maxRecDepth 20000 in
theorem box_114 {Q : Option AV → Hp → Prop} {σ : Hp} {l n kn x y w : Int} (hw : Wf σ) (hC : CLay σ) (hok : cBoxOk σ l n kn x y w) (hL : LOk σ 3 2) (o : LpO σ (45 + 4 * l)) (hd : fR σ 1401 3 = fR σ 1401 (46 + 4 * l) → ln σ (fR σ 1401 3) = 0)
    (h : ∀ σ2 σ3, Wf (cBox1 σ l n kn x y w) → Added (cBox1 σ l n kn x y w) (46 + 4 * l) (nx σ) σ2 → LOk σ2 (46 + 4 * l) 2 → Wf σ2 → Added σ2 3 (nx σ) σ3 → LOk σ3 3 2 → Q (some (vi (fI σ 1402 3))) σ3) : Go M_X11_box Q 114 [some (vr 1), some (vi l), some (vi n), some (vi kn), some (vi x), some (vi y), some (vi w), some (vr (45 + 4 * l)), some (vr (nx σ))] [] (cBox1 σ l n kn x y w) (1, 14) := by
  obtain ⟨k1, k2, k3, k4, k5, k6, k7, k8⟩ := hok
  have hn := okNum_r k5
  obtain ⟨q1, -, q3, -⟩ := LoP.k hC k1
  have oL := o.l
  have oN := o.n
  rw [q3] at oL oN
  have hnx := hw.1
  have hk : kd σ 1 = 12 := by simp only [hC.eqs]
  have h1n := (hw.2.1 1 (by omega)).2.1
  have hqn := (hw.2.1 (45 + 4 * l) (by omega)).2.1
  have hpn := (hw.2.1 (46 + 4 * l) (by have := oL.1; omega)).2.1
  have h3n := (hw.2.1 3 (by have := hL.1; omega)).2.1
  obtain ⟨b1, b2, b3, b4, b5, b6, b7, b8, b9⟩ := cBox1_s σ l n kn x y w
  have L1 : LOk (cBox1 σ l n kn x y w) (46 + 4 * l) 2 := oL.cg hw b2 (by rw [b4]) (b9 _ _ (by omega)) (by rw [b7]) (by rw [b4])
  have e1 : kd (cBox1 σ l n kn x y w) 1 = 12 := by rw [(b2 1 (by omega)).1]; exact hk
  have e2 : kd (cBox1 σ l n kn x y w) (45 + 4 * l) = 10 := by rw [(b2 _ (by omega)).1]; exact q1
  have e3 : fI (cBox1 σ l n kn x y w) 1402 (46 + 4 * l) = fI σ 1402 (46 + 4 * l) := b9 _ _ (by omega)
  have e4 : fI (cBox1 σ l n kn x y w) 1402 3 = fI σ 1402 3 := b9 _ _ (by omega)
  have hdd : fR (cBox1 σ l n kn x y w) 1401 3 = fR (cBox1 σ l n kn x y w) 1401 (46 + 4 * l) → ln (cBox1 σ l n kn x y w) (fR (cBox1 σ l n kn x y w) 1401 3) = 0 := fun z => by
    rw [b4] at z ⊢
    rw [(b2 _ (by have := (hw.2.1 (fR σ 1401 3) (by rw [hL.2.1]; decide)).2.1; omega)).2]
    exact hd z
  have L3 : LOk (cBox1 σ l n kn x y w) 3 2 := hL.cg hw b2 (by rw [b4]) (b9 _ _ (by omega)) (by rw [b7]) (by rw [b4])
  have h302 : fI (cBox1 σ l n kn x y w) 302 (nx σ) = fI σ 1402 3 := by
    unfold cBox1
    simp only [fI_pI, Nat.reduceEqDiff, false_and, if_false, and_self, if_true]
  have e5 : fR (cBox1 σ l n kn x y w) 1000 (45 + 4 * l) = 46 + 4 * l := by rw [b4]; exact q3
  have e6 : fR (cBox1 σ l n kn x y w) 1203 1 = 3 := by rw [b4]; simp only [hC.eqs]
  generalize cBox1 σ l n kn x y w = ρ at *
  refine Go.wf fun hwρ => ?_
  have s1 : ∃ ci, (ci = 0 ∨ ci = 2 ∨ ci = 5) ∧ LOk ρ (46 + 4 * l) ci ∧ kd ρ (nx σ) = ci + 1 ∧ fI ρ 1402 (46 + 4 * l) ≤ 100 ∧ ∀ σ', Added ρ (46 + 4 * l) (nx σ) σ' → LOk σ' (46 + 4 * l) ci → Go M_X11_box Q 124 [some (vr 1), some (vi l), some (vi n), some (vi kn), some (vi x), some (vi y), some (vi w), some (vr (45 + 4 * l)), some (vr (nx σ))] [vi 1] σ' (2, 164) := ⟨2, Or.inr (Or.inl rfl), L1, b3, by omega, fun σ2 A1 M1 => by
    refine Go.wf fun hw2 => ?_
    have A1' := A1
    obtain ⟨A2, A3, A4⟩ := LOk.added hwρ A1 L3 (by omega) hdd
    obtain ⟨c1, c2, -, c4, -, -, c7, -⟩ := A1'
    have f1 : kd σ2 1 = 12 := by rw [(c2 1 (by omega)).1]; exact e1
    have f2 : kd σ2 (nx σ) = 3 := by rw [(c2 _ (by omega)).1]; exact b3
    have f3 : fR σ2 1203 1 = 3 := by rw [c7 _ _ (by omega)]; exact e6
    have f4 : kd σ2 3 = 14 := A2.1
    have f5 : fI σ2 302 (nx σ) = fI σ 1402 3 := by rw [c4 _ _ (by omega)]; exact h302
    have s2 : ∃ ci, (ci = 0 ∨ ci = 2 ∨ ci = 5) ∧ LOk σ2 3 ci ∧ kd σ2 (nx σ) = ci + 1 ∧ fI σ2 1402 3 ≤ 100 ∧ ∀ σ', Added σ2 3 (nx σ) σ' → LOk σ' 3 ci → Go M_X11_box Q 134 [some (vr 1), some (vi l), some (vi n), some (vi kn), some (vi x), some (vi y), some (vi w), some (vr (45 + 4 * l)), some (vr (nx σ))] [vi 1] σ' (3, 314) := ⟨2, Or.inr (Or.inl rfl), A2, f2, by omega, fun σ3 B1 N1 => by
      have h := h σ2 σ3 hwρ A1 M1 hw2 B1 N1
      obtain ⟨-, d2, -, d4, -⟩ := B1
      have g1 : kd σ3 (nx σ) = 3 := by rw [(d2 _ (by omega)).1]; exact f2
      have g2 : fI σ3 302 (nx σ) = fI σ 1402 3 := by rw [d4 _ _ (by omega)]; exact f5
      refine go_X11_box (ct := fun p => p == 0) 20 ?_
      simp only [oI, oL, oR, o1, lI, lL, lR, popN, catS, gv, stL, stL2, swt, cnd, spObj, List.getElem?_cons_zero, List.getElem?_cons_succ, List.getD_cons_zero, List.getD_cons_succ, List.set_cons_zero, List.set_cons_succ, List.nil_append, List.cons_append, Option.toList, Bool.or_false, Bool.false_or, Bool.or_true, Bool.true_or, Nat.reduceBEq, Nat.reduceAdd, Nat.reduceLT, Nat.reduceLeDiff, Int.reduceAdd, Int.reduceToNat, true_and, and_true, Fin.isValue, Fin.val_zero, Fin.val_one, Fin.val_two, Fin.reduceFinMk, eq_self, Int.reduceNeg, imp_self, Nat.reduceMul, Nat.le_refl, not_true_eq_false, not_false_eq_true, List.getElem?_nil, reduceCtorEq, true_or, or_true, Classical.not_not, implies_true, or_self, wI_0, wI_1, wI_m1, b2i_w, b2i_eq0, b2i_eq1, b2i_bool, nor_self, nx_pI, kd_pI, ln_pI, fI_pI, fL_pI, fR_pI, aI_pI, aL_pI, aR_pI, nx_pL, kd_pL, ln_pL, fI_pL, fL_pL, fR_pL, aI_pL, aL_pL, aR_pL, nx_pR, kd_pR, ln_pR, fI_pR, fL_pR, fR_pR, aI_pR, aL_pR, aR_pR, nx_qI, kd_qI, ln_qI, fI_qI, fL_qI, fR_qI, aI_qI, aL_qI, aR_qI, nx_qL, kd_qL, ln_qL, fI_qL, fL_qL, fR_qL, aI_qL, aL_qL, aR_qL, nx_qR, kd_qR, ln_qR, fI_qR, fL_qR, fR_qR, aI_qR, aL_qR, aR_qR, nx_mk, kd_mk, ln_mk, fI_mk, fL_mk, fR_mk, aI_mk, aL_mk, aR_mk, false_and, and_false, if_false, if_true, and_self, Int.reduceEq, Nat.reduceEqDiff, ite_self, MLay_pI, MLay_pL, MLay_qI, MLay_qL, ev_X11_box_134, ev_X11_box_135, ev_X11_box_137, ev_X11_box_140, xt_X11_box, xf_X11_box, us_X11_loopOf, us_Jx4a65c_size_8abf5, us_X11_isWard, us_X11_isPlace, us_X11_isBoxNumber, us_X9_hasRoomFor, us_X2_init, us_X2_hang, us_X2_stand, us_Jx4a65c_add_9ea2d, g1, g2]
      repeat' (first | intro z | apply And.intro)
      all_goals try omega
      all_goals try contradiction
      all_goals exact h⟩
    clear h A1 M1
    refine go_X11_box (ct := fun p => p == 134) 40 ?_
    simp only [oI, oL, oR, o1, lI, lL, lR, popN, catS, gv, stL, stL2, swt, cnd, spObj, List.getElem?_cons_zero, List.getElem?_cons_succ, List.getD_cons_zero, List.getD_cons_succ, List.set_cons_zero, List.set_cons_succ, List.nil_append, List.cons_append, Option.toList, Bool.or_false, Bool.false_or, Bool.or_true, Bool.true_or, Nat.reduceBEq, Nat.reduceAdd, Nat.reduceLT, Nat.reduceLeDiff, Int.reduceAdd, Int.reduceToNat, true_and, and_true, Fin.isValue, Fin.val_zero, Fin.val_one, Fin.val_two, Fin.reduceFinMk, eq_self, Int.reduceNeg, imp_self, Nat.reduceMul, Nat.le_refl, not_true_eq_false, not_false_eq_true, List.getElem?_nil, reduceCtorEq, true_or, or_true, Classical.not_not, implies_true, or_self, wI_0, wI_1, wI_m1, b2i_w, b2i_eq0, b2i_eq1, b2i_bool, nor_self, nx_pI, kd_pI, ln_pI, fI_pI, fL_pI, fR_pI, aI_pI, aL_pI, aR_pI, nx_pL, kd_pL, ln_pL, fI_pL, fL_pL, fR_pL, aI_pL, aL_pL, aR_pL, nx_pR, kd_pR, ln_pR, fI_pR, fL_pR, fR_pR, aI_pR, aL_pR, aR_pR, nx_qI, kd_qI, ln_qI, fI_qI, fL_qI, fR_qI, aI_qI, aL_qI, aR_qI, nx_qL, kd_qL, ln_qL, fI_qL, fL_qL, fR_qL, aI_qL, aL_qL, aR_qL, nx_qR, kd_qR, ln_qR, fI_qR, fL_qR, fR_qR, aI_qR, aL_qR, aR_qR, nx_mk, kd_mk, ln_mk, fI_mk, fL_mk, fR_mk, aI_mk, aL_mk, aR_mk, false_and, and_false, if_false, if_true, and_self, Int.reduceEq, Nat.reduceEqDiff, ite_self, MLay_pI, MLay_pL, MLay_qI, MLay_qL, ev_X11_box_124, ev_X11_box_125, ev_X11_box_126, ev_X11_box_129, ev_X11_box_131, xt_X11_box, xf_X11_box, us_X11_loopOf, us_Jx4a65c_size_8abf5, us_X11_isWard, us_X11_isPlace, us_X11_isBoxNumber, us_X9_hasRoomFor, us_X2_init, us_X2_hang, us_X2_stand, us_Jx4a65c_add_9ea2d, f1, f3, f4]
    repeat' (first | intro z | apply And.intro)
    all_goals try omega
    all_goals try contradiction
    all_goals exact s2⟩
  clear h
  refine go_X11_box (ct := fun p => p == 124) 40 ?_
  simp only [oI, oL, oR, o1, lI, lL, lR, popN, catS, gv, stL, stL2, swt, cnd, spObj, List.getElem?_cons_zero, List.getElem?_cons_succ, List.getD_cons_zero, List.getD_cons_succ, List.set_cons_zero, List.set_cons_succ, List.nil_append, List.cons_append, Option.toList, Bool.or_false, Bool.false_or, Bool.or_true, Bool.true_or, Nat.reduceBEq, Nat.reduceAdd, Nat.reduceLT, Nat.reduceLeDiff, Int.reduceAdd, Int.reduceToNat, true_and, and_true, Fin.isValue, Fin.val_zero, Fin.val_one, Fin.val_two, Fin.reduceFinMk, eq_self, Int.reduceNeg, imp_self, Nat.reduceMul, Nat.le_refl, not_true_eq_false, not_false_eq_true, List.getElem?_nil, reduceCtorEq, true_or, or_true, Classical.not_not, implies_true, or_self, wI_0, wI_1, wI_m1, b2i_w, b2i_eq0, b2i_eq1, b2i_bool, nor_self, nx_pI, kd_pI, ln_pI, fI_pI, fL_pI, fR_pI, aI_pI, aL_pI, aR_pI, nx_pL, kd_pL, ln_pL, fI_pL, fL_pL, fR_pL, aI_pL, aL_pL, aR_pL, nx_pR, kd_pR, ln_pR, fI_pR, fL_pR, fR_pR, aI_pR, aL_pR, aR_pR, nx_qI, kd_qI, ln_qI, fI_qI, fL_qI, fR_qI, aI_qI, aL_qI, aR_qI, nx_qL, kd_qL, ln_qL, fI_qL, fL_qL, fR_qL, aI_qL, aL_qL, aR_qL, nx_qR, kd_qR, ln_qR, fI_qR, fL_qR, fR_qR, aI_qR, aL_qR, aR_qR, nx_mk, kd_mk, ln_mk, fI_mk, fL_mk, fR_mk, aI_mk, aL_mk, aR_mk, false_and, and_false, if_false, if_true, and_self, Int.reduceEq, Nat.reduceEqDiff, ite_self, MLay_pI, MLay_pL, MLay_qI, MLay_qL, ev_X11_box_114, ev_X11_box_116, ev_X11_box_119, ev_X11_box_121, xt_X11_box, xf_X11_box, us_X11_loopOf, us_Jx4a65c_size_8abf5, us_X11_isWard, us_X11_isPlace, us_X11_isBoxNumber, us_X9_hasRoomFor, us_X2_init, us_X2_hang, us_X2_stand, us_Jx4a65c_add_9ea2d, e2, e5, L1.1]
  repeat' (first | intro z | apply And.intro)
  all_goals try omega
  all_goals try contradiction
  all_goals exact s1

set_option maxRecDepth 20000 in
theorem box_80 {Q : Option AV → Hp → Prop} {ρ : Hp} {l n kn x y w p i a : Int} {a8 : Option AV} (t1 : kd ρ 1 = 12) (t2 : kd ρ (45 + 4 * l) = 10) (t3 : kd ρ (46 + 4 * l) = 14) (t4 : kd ρ 3 = 14) (t5 : kd ρ p = 3) (t6 : fR ρ 1203 1 = 3) (t7 : fR ρ 1000 (45 + 4 * l) = 46 + 4 * l) (u1 : fI ρ 1402 3 = i) (u2 : fI ρ 1402 (46 + 4 * l) = a)
    (h : Go M_X11_box Q 114 [some (vr 1), some (vi l), some (vi n), some (vi kn), some (vi x), some (vi y), some (vi w), some (vr (45 + 4 * l)), some (vr p)] [] (pI (pI (pI (pI (pI (pI ρ 302 p i) 303 p l) 304 p a) 305 p x) 306 p y) 307 p w) (1, 14)) : Go M_X11_box Q 80 [some (vr 1), some (vi l), some (vi n), some (vi kn), some (vi x), some (vi y), some (vi w), some (vr (45 + 4 * l)), a8] [vr p] ρ (1, 14) := by
  refine go_X11_box (ct := fun p => p == 114) 60 ?_
  simp only [oI, oL, oR, o1, lI, lL, lR, popN, catS, gv, stL, stL2, swt, cnd, spObj, List.getElem?_cons_zero, List.getElem?_cons_succ, List.getD_cons_zero, List.getD_cons_succ, List.set_cons_zero, List.set_cons_succ, List.nil_append, List.cons_append, Option.toList, Bool.or_false, Bool.false_or, Bool.or_true, Bool.true_or, Nat.reduceBEq, Nat.reduceAdd, Nat.reduceLT, Nat.reduceLeDiff, Int.reduceAdd, Int.reduceToNat, true_and, and_true, Fin.isValue, Fin.val_zero, Fin.val_one, Fin.val_two, Fin.reduceFinMk, eq_self, Int.reduceNeg, imp_self, Nat.reduceMul, Nat.le_refl, not_true_eq_false, not_false_eq_true, List.getElem?_nil, reduceCtorEq, true_or, or_true, Classical.not_not, implies_true, or_self, wI_0, wI_1, wI_m1, b2i_w, b2i_eq0, b2i_eq1, b2i_bool, nor_self, nx_pI, kd_pI, ln_pI, fI_pI, fL_pI, fR_pI, aI_pI, aL_pI, aR_pI, nx_pL, kd_pL, ln_pL, fI_pL, fL_pL, fR_pL, aI_pL, aL_pL, aR_pL, nx_pR, kd_pR, ln_pR, fI_pR, fL_pR, fR_pR, aI_pR, aL_pR, aR_pR, nx_qI, kd_qI, ln_qI, fI_qI, fL_qI, fR_qI, aI_qI, aL_qI, aR_qI, nx_qL, kd_qL, ln_qL, fI_qL, fL_qL, fR_qL, aI_qL, aL_qL, aR_qL, nx_qR, kd_qR, ln_qR, fI_qR, fL_qR, fR_qR, aI_qR, aL_qR, aR_qR, nx_mk, kd_mk, ln_mk, fI_mk, fL_mk, fR_mk, aI_mk, aL_mk, aR_mk, false_and, and_false, if_false, if_true, and_self, Int.reduceEq, Nat.reduceEqDiff, ite_self, MLay_pI, MLay_pL, MLay_qI, MLay_qL, ev_X11_box_80, ev_X11_box_82, ev_X11_box_84, ev_X11_box_85, ev_X11_box_88, ev_X11_box_91, ev_X11_box_92, ev_X11_box_94, ev_X11_box_97, ev_X11_box_100, ev_X11_box_103, ev_X11_box_105, ev_X11_box_107, ev_X11_box_109, ev_X11_box_111, xt_X11_box, xf_X11_box, us_X11_loopOf, us_Jx4a65c_size_8abf5, us_X11_isWard, us_X11_isPlace, us_X11_isBoxNumber, us_X9_hasRoomFor, us_X2_init, us_X2_hang, us_X2_stand, us_Jx4a65c_add_9ea2d, t1, t2, t3, t4, t5, t6, t7, u1, u2]
  repeat' (first | intro z | apply And.intro)
  all_goals try omega
  all_goals try contradiction
  all_goals exact h

set_option maxRecDepth 20000 in
theorem box_71 {Q : Option AV → Hp → Prop} {σ : Hp} {l n kn x y w : Int} {a8 : Option AV} (hC : CLay σ) (hok : cBoxOk σ l n kn x y w) (hL : LOk σ 3 2) (o : LpO σ (45 + 4 * l)) (hd : fR σ 1401 3 = fR σ 1401 (46 + 4 * l) → ln σ (fR σ 1401 3) = 0)
    (h : ∀ σ2 σ3, Wf (cBox1 σ l n kn x y w) → Added (cBox1 σ l n kn x y w) (46 + 4 * l) (nx σ) σ2 → LOk σ2 (46 + 4 * l) 2 → Wf σ2 → Added σ2 3 (nx σ) σ3 → LOk σ3 3 2 → Q (some (vi (fI σ 1402 3))) σ3) : Go M_X11_box Q 71 [some (vr 1), some (vi l), some (vi n), some (vi kn), some (vi x), some (vi y), some (vi w), some (vr (45 + 4 * l)), a8] [] σ (0, 0) := by
  refine Go.wf fun hw => ?_
  have wz := box_114 hw hC hok hL o hd h
  clear h
  obtain ⟨k1, k2, k3, k4, k5, k6, k7, k8⟩ := hok
  have hn := okNum_r k5
  obtain ⟨q1, -, q3, -⟩ := LoP.k hC k1
  have oL := o.l
  rw [q3] at oL
  have hk : kd σ 1 = 12 := by simp only [hC.eqs]
  have h1n := (hw.2.1 1 (by omega)).2.1
  have hqn := (hw.2.1 (45 + 4 * l) (by omega)).2.1
  have hpn := (hw.2.1 (46 + 4 * l) (by have := oL.1; omega)).2.1
  have h3n := (hw.2.1 3 (by have := hL.1; omega)).2.1
  have e1 : ¬ (1 : Int) = nx σ := by omega
  have e2 : ¬ 45 + 4 * l = nx σ := by omega
  have e3 : ¬ 46 + 4 * l = nx σ := by omega
  have e4 : ¬ (3 : Int) = nx σ := by omega
  obtain ⟨-, v2, -, v4, -, -, -, -, v9⟩ := cWhl_s (pI (pI (pI (mk σ 3 0) 313 (nx σ) (-1)) 300 (nx σ) n) 301 (nx σ) kn) (nx σ) n
  unfold cBox1 at wz
  have w80 : ∀ a8, Go M_X11_box Q 80 [some (vr 1), some (vi l), some (vi n), some (vi kn), some (vi x), some (vi y), some (vi w), some (vr (45 + 4 * l)), a8] [vr (nx σ)] (cWhl (pI (pI (pI (mk σ 3 0) 313 (nx σ) (-1)) 300 (nx σ) n) 301 (nx σ) kn) (nx σ) n) (1, 14) := fun a8 => by
    refine box_80 ?_ ?_ ?_ ?_ ?_ ?_ ?_ ?_ ?_ wz
    · rw [v2]; simp only [kd_pI, kd_mk, e1, if_false]; exact hk
    · rw [v2]; simp only [kd_pI, kd_mk, e2, if_false]; exact q1
    · rw [v2]; simp only [kd_pI, kd_mk, e3, if_false]; exact oL.1
    · rw [v2]; simp only [kd_pI, kd_mk, e4, if_false]; exact hL.1
    · rw [v2]; simp only [kd_pI, kd_mk, if_true]
    · rw [v4]; simp only [fR_pI, fR_mk, hC.eqs]
    · rw [v4]; simp only [fR_pI, fR_mk]; exact q3
    · rw [v9 _ _ (by omega)]
      simp only [fI_pI, fI_mk, Nat.reduceEqDiff, false_and, if_false]
    · rw [v9 _ _ (by omega)]
      simp only [fI_pI, fI_mk, Nat.reduceEqDiff, false_and, if_false]
  have w80 := w80 a8
  have hn2 : 0 ≤ n ∧ n ≤ 555 := by omega
  clear wz v2 v4 v9
  refine go_X11_box (ct := fun p => p == 80) 20 ?_
  simp only [oI, oL, oR, o1, lI, lL, lR, popN, catS, gv, stL, stL2, swt, cnd, spObj, List.getElem?_cons_zero, List.getElem?_cons_succ, List.getD_cons_zero, List.getD_cons_succ, List.set_cons_zero, List.set_cons_succ, List.nil_append, List.cons_append, Option.toList, Bool.or_false, Bool.false_or, Bool.or_true, Bool.true_or, Nat.reduceBEq, Nat.reduceAdd, Nat.reduceLT, Nat.reduceLeDiff, Int.reduceAdd, Int.reduceToNat, true_and, and_true, Fin.isValue, Fin.val_zero, Fin.val_one, Fin.val_two, Fin.reduceFinMk, eq_self, Int.reduceNeg, imp_self, Nat.reduceMul, Nat.le_refl, not_true_eq_false, not_false_eq_true, List.getElem?_nil, reduceCtorEq, true_or, or_true, Classical.not_not, implies_true, or_self, wI_0, wI_1, wI_m1, b2i_w, b2i_eq0, b2i_eq1, b2i_bool, nor_self, nx_pI, kd_pI, ln_pI, fI_pI, fL_pI, fR_pI, aI_pI, aL_pI, aR_pI, nx_pL, kd_pL, ln_pL, fI_pL, fL_pL, fR_pL, aI_pL, aL_pL, aR_pL, nx_pR, kd_pR, ln_pR, fI_pR, fL_pR, fR_pR, aI_pR, aL_pR, aR_pR, nx_qI, kd_qI, ln_qI, fI_qI, fL_qI, fR_qI, aI_qI, aL_qI, aR_qI, nx_qL, kd_qL, ln_qL, fI_qL, fL_qL, fR_qL, aI_qL, aL_qL, aR_qL, nx_qR, kd_qR, ln_qR, fI_qR, fL_qR, fR_qR, aI_qR, aL_qR, aR_qR, nx_mk, kd_mk, ln_mk, fI_mk, fL_mk, fR_mk, aI_mk, aL_mk, aR_mk, false_and, and_false, if_false, if_true, and_self, Int.reduceEq, Nat.reduceEqDiff, ite_self, MLay_pI, MLay_pL, MLay_qI, MLay_qL, ev_X11_box_71, ev_X11_box_74, ev_X11_box_75, ev_X11_box_76, ev_X11_box_77, xt_X11_box, xf_X11_box, us_X11_loopOf, us_Jx4a65c_size_8abf5, us_X11_isWard, us_X11_isPlace, us_X11_isBoxNumber, us_X9_hasRoomFor, us_X2_init, us_X2_hang, us_X2_stand, us_Jx4a65c_add_9ea2d, hn2]
  repeat' (first | intro z | apply And.intro)
  all_goals try omega
  all_goals try contradiction
  all_goals exact w80

set_option maxRecDepth 20000 in
theorem c_X11_box : Ct yX11_box cX11_box 9 ((some FieldType.int)) 8 3 314 sp_X11_box := by
  refine Ct.go (M := M_X11_box) mm_X11_box fun av σ Q h0 => ?_
  obtain ⟨this, l, n, kn, x, y, w, rfl, hk, h⟩ := el_X11_box h0
  clear h0
  refine ⟨Nat.le_of_ble_eq_true rfl, ?_⟩
  show Go M_X11_box Q 0 [some (vr this), some (vi l), some (vi n), some (vi kn), some (vi x), some (vi y), some (vi w), none, none] [] σ (0, 0)
  obtain ⟨rfl, hC, r1, r2, r3, r4, r5, r6, hL, hO, hd, h1, h2⟩ := h
  have hs3 := hL.2.2.1
  have hs4 := hL.2.2.2.1
  have hk14 := hL.1
  have r3' := r3
  unfold inR at r3'
  by_cases c1 : 0 ≤ l ∧ l < 4
  · have e : (if 0 ≤ l ∧ l < 4 then 45 + 4 * l else 0) = 45 + 4 * l := if_pos c1
    have hne : ¬ 45 + 4 * l = 0 := by omega
    have o := hO l c1.1 c1.2
    obtain ⟨q1, -, q3, -⟩ := LoP.k hC c1
    have w42 : ¬ cBoxOk σ l n kn x y w → ∀ a7 a8, Go M_X11_box Q 42 [some (vr 1), some (vi l), some (vi n), some (vi kn), some (vi x), some (vi y), some (vi w), a7, a8] [] σ (0, 0) := fun z a7 a8 => by
      have h2 := h2 z
      refine go_X11_box (ct := fun p => p == 0) 20 ?_
      simp only [oI, oL, oR, o1, lI, lL, lR, popN, catS, gv, stL, stL2, swt, cnd, spObj, List.getElem?_cons_zero, List.getElem?_cons_succ, List.getD_cons_zero, List.getD_cons_succ, List.set_cons_zero, List.set_cons_succ, List.nil_append, List.cons_append, Option.toList, Bool.or_false, Bool.false_or, Bool.or_true, Bool.true_or, Nat.reduceBEq, Nat.reduceAdd, Nat.reduceLT, Nat.reduceLeDiff, Int.reduceAdd, Int.reduceToNat, true_and, and_true, Fin.isValue, Fin.val_zero, Fin.val_one, Fin.val_two, Fin.reduceFinMk, eq_self, Int.reduceNeg, imp_self, Nat.reduceMul, Nat.le_refl, not_true_eq_false, not_false_eq_true, List.getElem?_nil, reduceCtorEq, true_or, or_true, Classical.not_not, implies_true, or_self, wI_0, wI_1, wI_m1, b2i_w, b2i_eq0, b2i_eq1, b2i_bool, nor_self, nx_pI, kd_pI, ln_pI, fI_pI, fL_pI, fR_pI, aI_pI, aL_pI, aR_pI, nx_pL, kd_pL, ln_pL, fI_pL, fL_pL, fR_pL, aI_pL, aL_pL, aR_pL, nx_pR, kd_pR, ln_pR, fI_pR, fL_pR, fR_pR, aI_pR, aL_pR, aR_pR, nx_qI, kd_qI, ln_qI, fI_qI, fL_qI, fR_qI, aI_qI, aL_qI, aR_qI, nx_qL, kd_qL, ln_qL, fI_qL, fL_qL, fR_qL, aI_qL, aL_qL, aR_qL, nx_qR, kd_qR, ln_qR, fI_qR, fL_qR, fR_qR, aI_qR, aL_qR, aR_qR, nx_mk, kd_mk, ln_mk, fI_mk, fL_mk, fR_mk, aI_mk, aL_mk, aR_mk, false_and, and_false, if_false, if_true, and_self, Int.reduceEq, Nat.reduceEqDiff, ite_self, MLay_pI, MLay_pL, MLay_qI, MLay_qL, ev_X11_box_42, ev_X11_box_43, xt_X11_box, xf_X11_box, us_X11_loopOf, us_Jx4a65c_size_8abf5, us_X11_isWard, us_X11_isPlace, us_X11_isBoxNumber, us_X9_hasRoomFor, us_X2_init, us_X2_hang, us_X2_stand, us_Jx4a65c_add_9ea2d]
      repeat' (first | intro z | apply And.intro)
      all_goals try omega
      all_goals try contradiction
      all_goals exact h2
    have w69 : ¬ cBoxOk σ l n kn x y w → ∀ a7 a8, Go M_X11_box Q 69 [some (vr 1), some (vi l), some (vi n), some (vi kn), some (vi x), some (vi y), some (vi w), a7, a8] [] σ (0, 0) := fun z a7 a8 => by
      have h2 := h2 z
      refine go_X11_box (ct := fun p => p == 0) 20 ?_
      simp only [oI, oL, oR, o1, lI, lL, lR, popN, catS, gv, stL, stL2, swt, cnd, spObj, List.getElem?_cons_zero, List.getElem?_cons_succ, List.getD_cons_zero, List.getD_cons_succ, List.set_cons_zero, List.set_cons_succ, List.nil_append, List.cons_append, Option.toList, Bool.or_false, Bool.false_or, Bool.or_true, Bool.true_or, Nat.reduceBEq, Nat.reduceAdd, Nat.reduceLT, Nat.reduceLeDiff, Int.reduceAdd, Int.reduceToNat, true_and, and_true, Fin.isValue, Fin.val_zero, Fin.val_one, Fin.val_two, Fin.reduceFinMk, eq_self, Int.reduceNeg, imp_self, Nat.reduceMul, Nat.le_refl, not_true_eq_false, not_false_eq_true, List.getElem?_nil, reduceCtorEq, true_or, or_true, Classical.not_not, implies_true, or_self, wI_0, wI_1, wI_m1, b2i_w, b2i_eq0, b2i_eq1, b2i_bool, nor_self, nx_pI, kd_pI, ln_pI, fI_pI, fL_pI, fR_pI, aI_pI, aL_pI, aR_pI, nx_pL, kd_pL, ln_pL, fI_pL, fL_pL, fR_pL, aI_pL, aL_pL, aR_pL, nx_pR, kd_pR, ln_pR, fI_pR, fL_pR, fR_pR, aI_pR, aL_pR, aR_pR, nx_qI, kd_qI, ln_qI, fI_qI, fL_qI, fR_qI, aI_qI, aL_qI, aR_qI, nx_qL, kd_qL, ln_qL, fI_qL, fL_qL, fR_qL, aI_qL, aL_qL, aR_qL, nx_qR, kd_qR, ln_qR, fI_qR, fL_qR, fR_qR, aI_qR, aL_qR, aR_qR, nx_mk, kd_mk, ln_mk, fI_mk, fL_mk, fR_mk, aI_mk, aL_mk, aR_mk, false_and, and_false, if_false, if_true, and_self, Int.reduceEq, Nat.reduceEqDiff, ite_self, MLay_pI, MLay_pL, MLay_qI, MLay_qL, ev_X11_box_69, ev_X11_box_70, xt_X11_box, xf_X11_box, us_X11_loopOf, us_Jx4a65c_size_8abf5, us_X11_isWard, us_X11_isPlace, us_X11_isBoxNumber, us_X9_hasRoomFor, us_X2_init, us_X2_hang, us_X2_stand, us_Jx4a65c_add_9ea2d]
      repeat' (first | intro z | apply And.intro)
      all_goals try omega
      all_goals try contradiction
      all_goals exact h2
    have w71 : cBoxOk σ l n kn x y w → ∀ a8, Go M_X11_box Q 71 [some (vr 1), some (vi l), some (vi n), some (vi kn), some (vi x), some (vi y), some (vi w), some (vr (45 + 4 * l)), a8] [] σ (0, 0) := fun z a8 => box_71 hC z hL o (hd l c1.1 c1.2) (h1 z)
    clear h1 h2 hd
    by_cases c2 : fI σ 1402 3 < 32 ∧ (0 ≤ w ∧ w ≤ 7) ∧ ((0 ≤ x ∧ x ≤ 99) ∧ 0 ≤ y ∧ y ≤ 99)
    · obtain ⟨d1, d2, d3⟩ := c2
      have w44 : Go M_X11_box Q 44 [some (vr 1), some (vi l), some (vi n), some (vi kn), some (vi x), some (vi y), some (vi w), some (vr (45 + 4 * l)), none] [] σ (0, 0) := by
        by_cases c3 : okNum n ∧ (0 ≤ kn ∧ kn ≤ 1)
        · obtain ⟨d4, d5⟩ := c3
          by_cases c4 : ¬ (bE (fI σ 1402 (46 + 4 * l)) fun k => fI σ 300 (lat σ (46 + 4 * l) k) = n) ∧ fI σ 1402 (46 + 4 * l) < 12
          · have wz := w71 ⟨c1, d1, d2, d3, d4, d5, c4.1, c4.2⟩ none
            clear w71 w42 w69
            refine go_X11_box (ct := fun p => p == 71 || p == 69) 40 ?_
            simp only [oI, oL, oR, o1, lI, lL, lR, popN, catS, gv, stL, stL2, swt, cnd, spObj, List.getElem?_cons_zero, List.getElem?_cons_succ, List.getD_cons_zero, List.getD_cons_succ, List.set_cons_zero, List.set_cons_succ, List.nil_append, List.cons_append, Option.toList, Bool.or_false, Bool.false_or, Bool.or_true, Bool.true_or, Nat.reduceBEq, Nat.reduceAdd, Nat.reduceLT, Nat.reduceLeDiff, Int.reduceAdd, Int.reduceToNat, true_and, and_true, Fin.isValue, Fin.val_zero, Fin.val_one, Fin.val_two, Fin.reduceFinMk, eq_self, Int.reduceNeg, imp_self, Nat.reduceMul, Nat.le_refl, not_true_eq_false, not_false_eq_true, List.getElem?_nil, reduceCtorEq, true_or, or_true, Classical.not_not, implies_true, or_self, wI_0, wI_1, wI_m1, b2i_w, b2i_eq0, b2i_eq1, b2i_bool, nor_self, nx_pI, kd_pI, ln_pI, fI_pI, fL_pI, fR_pI, aI_pI, aL_pI, aR_pI, nx_pL, kd_pL, ln_pL, fI_pL, fL_pL, fR_pL, aI_pL, aL_pL, aR_pL, nx_pR, kd_pR, ln_pR, fI_pR, fL_pR, fR_pR, aI_pR, aL_pR, aR_pR, nx_qI, kd_qI, ln_qI, fI_qI, fL_qI, fR_qI, aI_qI, aL_qI, aR_qI, nx_qL, kd_qL, ln_qL, fI_qL, fL_qL, fR_qL, aI_qL, aL_qL, aR_qL, nx_qR, kd_qR, ln_qR, fI_qR, fL_qR, fR_qR, aI_qR, aL_qR, aR_qR, nx_mk, kd_mk, ln_mk, fI_mk, fL_mk, fR_mk, aI_mk, aL_mk, aR_mk, false_and, and_false, if_false, if_true, and_self, Int.reduceEq, Nat.reduceEqDiff, ite_self, MLay_pI, MLay_pL, MLay_qI, MLay_qL, ev_X11_box_44, ev_X11_box_45, ev_X11_box_48, ev_X11_box_51, ev_X11_box_52, ev_X11_box_55, ev_X11_box_56, ev_X11_box_57, ev_X11_box_60, ev_X11_box_62, ev_X11_box_63, ev_X11_box_66, xt_X11_box, xf_X11_box, us_X11_loopOf, us_Jx4a65c_size_8abf5, us_X11_isWard, us_X11_isPlace, us_X11_isBoxNumber, us_X9_hasRoomFor, us_X2_init, us_X2_hang, us_X2_stand, us_Jx4a65c_add_9ea2d, hC, q1, q3, o, r2, d4, c4]
            try simp (disch := omega) only [wI_id, dv_nn, rm_nn]
            repeat' (first | intro z | apply And.intro)
            all_goals try omega
            all_goals try contradiction
            all_goals exact wz
          · have wz := w69 (fun z => c4 ⟨z.2.2.2.2.2.2.1, z.2.2.2.2.2.2.2⟩) (some (vr (45 + 4 * l))) none
            clear w71 w42 w69
            refine go_X11_box (ct := fun p => p == 71 || p == 69) 40 ?_
            simp only [oI, oL, oR, o1, lI, lL, lR, popN, catS, gv, stL, stL2, swt, cnd, spObj, List.getElem?_cons_zero, List.getElem?_cons_succ, List.getD_cons_zero, List.getD_cons_succ, List.set_cons_zero, List.set_cons_succ, List.nil_append, List.cons_append, Option.toList, Bool.or_false, Bool.false_or, Bool.or_true, Bool.true_or, Nat.reduceBEq, Nat.reduceAdd, Nat.reduceLT, Nat.reduceLeDiff, Int.reduceAdd, Int.reduceToNat, true_and, and_true, Fin.isValue, Fin.val_zero, Fin.val_one, Fin.val_two, Fin.reduceFinMk, eq_self, Int.reduceNeg, imp_self, Nat.reduceMul, Nat.le_refl, not_true_eq_false, not_false_eq_true, List.getElem?_nil, reduceCtorEq, true_or, or_true, Classical.not_not, implies_true, or_self, wI_0, wI_1, wI_m1, b2i_w, b2i_eq0, b2i_eq1, b2i_bool, nor_self, nx_pI, kd_pI, ln_pI, fI_pI, fL_pI, fR_pI, aI_pI, aL_pI, aR_pI, nx_pL, kd_pL, ln_pL, fI_pL, fL_pL, fR_pL, aI_pL, aL_pL, aR_pL, nx_pR, kd_pR, ln_pR, fI_pR, fL_pR, fR_pR, aI_pR, aL_pR, aR_pR, nx_qI, kd_qI, ln_qI, fI_qI, fL_qI, fR_qI, aI_qI, aL_qI, aR_qI, nx_qL, kd_qL, ln_qL, fI_qL, fL_qL, fR_qL, aI_qL, aL_qL, aR_qL, nx_qR, kd_qR, ln_qR, fI_qR, fL_qR, fR_qR, aI_qR, aL_qR, aR_qR, nx_mk, kd_mk, ln_mk, fI_mk, fL_mk, fR_mk, aI_mk, aL_mk, aR_mk, false_and, and_false, if_false, if_true, and_self, Int.reduceEq, Nat.reduceEqDiff, ite_self, MLay_pI, MLay_pL, MLay_qI, MLay_qL, ev_X11_box_44, ev_X11_box_45, ev_X11_box_48, ev_X11_box_51, ev_X11_box_52, ev_X11_box_55, ev_X11_box_56, ev_X11_box_57, ev_X11_box_60, ev_X11_box_62, ev_X11_box_63, ev_X11_box_66, xt_X11_box, xf_X11_box, us_X11_loopOf, us_Jx4a65c_size_8abf5, us_X11_isWard, us_X11_isPlace, us_X11_isBoxNumber, us_X9_hasRoomFor, us_X2_init, us_X2_hang, us_X2_stand, us_Jx4a65c_add_9ea2d, hC, q1, q3, o, r2, d4, c4]
            try simp (disch := omega) only [wI_id, dv_nn, rm_nn]
            repeat' (first | intro z | apply And.intro)
            all_goals try omega
            all_goals try contradiction
            all_goals exact wz
        · have wz := w69 (fun z => c3 ⟨z.2.2.2.2.1, z.2.2.2.2.2.1⟩) (some (vr (45 + 4 * l))) none
          clear w71 w42 w69
          by_cases d4 : okNum n
          · refine go_X11_box (ct := fun p => p == 60 || p == 69) 40 ?_
            simp only [oI, oL, oR, o1, lI, lL, lR, popN, catS, gv, stL, stL2, swt, cnd, spObj, List.getElem?_cons_zero, List.getElem?_cons_succ, List.getD_cons_zero, List.getD_cons_succ, List.set_cons_zero, List.set_cons_succ, List.nil_append, List.cons_append, Option.toList, Bool.or_false, Bool.false_or, Bool.or_true, Bool.true_or, Nat.reduceBEq, Nat.reduceAdd, Nat.reduceLT, Nat.reduceLeDiff, Int.reduceAdd, Int.reduceToNat, true_and, and_true, Fin.isValue, Fin.val_zero, Fin.val_one, Fin.val_two, Fin.reduceFinMk, eq_self, Int.reduceNeg, imp_self, Nat.reduceMul, Nat.le_refl, not_true_eq_false, not_false_eq_true, List.getElem?_nil, reduceCtorEq, true_or, or_true, Classical.not_not, implies_true, or_self, wI_0, wI_1, wI_m1, b2i_w, b2i_eq0, b2i_eq1, b2i_bool, nor_self, nx_pI, kd_pI, ln_pI, fI_pI, fL_pI, fR_pI, aI_pI, aL_pI, aR_pI, nx_pL, kd_pL, ln_pL, fI_pL, fL_pL, fR_pL, aI_pL, aL_pL, aR_pL, nx_pR, kd_pR, ln_pR, fI_pR, fL_pR, fR_pR, aI_pR, aL_pR, aR_pR, nx_qI, kd_qI, ln_qI, fI_qI, fL_qI, fR_qI, aI_qI, aL_qI, aR_qI, nx_qL, kd_qL, ln_qL, fI_qL, fL_qL, fR_qL, aI_qL, aL_qL, aR_qL, nx_qR, kd_qR, ln_qR, fI_qR, fL_qR, fR_qR, aI_qR, aL_qR, aR_qR, nx_mk, kd_mk, ln_mk, fI_mk, fL_mk, fR_mk, aI_mk, aL_mk, aR_mk, false_and, and_false, if_false, if_true, and_self, Int.reduceEq, Nat.reduceEqDiff, ite_self, MLay_pI, MLay_pL, MLay_qI, MLay_qL, ev_X11_box_44, ev_X11_box_45, ev_X11_box_48, ev_X11_box_51, ev_X11_box_52, ev_X11_box_55, ev_X11_box_56, ev_X11_box_57, xt_X11_box, xf_X11_box, us_X11_loopOf, us_Jx4a65c_size_8abf5, us_X11_isWard, us_X11_isPlace, us_X11_isBoxNumber, us_X9_hasRoomFor, us_X2_init, us_X2_hang, us_X2_stand, us_Jx4a65c_add_9ea2d, r2, d4]
            try simp (disch := omega) only [wI_id, dv_nn, rm_nn]
            repeat' (first | intro z | apply And.intro)
            all_goals try omega
            all_goals try contradiction
            all_goals first | exact wz | (exfalso; exact c3 ⟨d4, by omega⟩)
          · refine go_X11_box (ct := fun p => p == 51 || p == 69) 40 ?_
            simp only [oI, oL, oR, o1, lI, lL, lR, popN, catS, gv, stL, stL2, swt, cnd, spObj, List.getElem?_cons_zero, List.getElem?_cons_succ, List.getD_cons_zero, List.getD_cons_succ, List.set_cons_zero, List.set_cons_succ, List.nil_append, List.cons_append, Option.toList, Bool.or_false, Bool.false_or, Bool.or_true, Bool.true_or, Nat.reduceBEq, Nat.reduceAdd, Nat.reduceLT, Nat.reduceLeDiff, Int.reduceAdd, Int.reduceToNat, true_and, and_true, Fin.isValue, Fin.val_zero, Fin.val_one, Fin.val_two, Fin.reduceFinMk, eq_self, Int.reduceNeg, imp_self, Nat.reduceMul, Nat.le_refl, not_true_eq_false, not_false_eq_true, List.getElem?_nil, reduceCtorEq, true_or, or_true, Classical.not_not, implies_true, or_self, wI_0, wI_1, wI_m1, b2i_w, b2i_eq0, b2i_eq1, b2i_bool, nor_self, nx_pI, kd_pI, ln_pI, fI_pI, fL_pI, fR_pI, aI_pI, aL_pI, aR_pI, nx_pL, kd_pL, ln_pL, fI_pL, fL_pL, fR_pL, aI_pL, aL_pL, aR_pL, nx_pR, kd_pR, ln_pR, fI_pR, fL_pR, fR_pR, aI_pR, aL_pR, aR_pR, nx_qI, kd_qI, ln_qI, fI_qI, fL_qI, fR_qI, aI_qI, aL_qI, aR_qI, nx_qL, kd_qL, ln_qL, fI_qL, fL_qL, fR_qL, aI_qL, aL_qL, aR_qL, nx_qR, kd_qR, ln_qR, fI_qR, fL_qR, fR_qR, aI_qR, aL_qR, aR_qR, nx_mk, kd_mk, ln_mk, fI_mk, fL_mk, fR_mk, aI_mk, aL_mk, aR_mk, false_and, and_false, if_false, if_true, and_self, Int.reduceEq, Nat.reduceEqDiff, ite_self, MLay_pI, MLay_pL, MLay_qI, MLay_qL, ev_X11_box_44, ev_X11_box_45, ev_X11_box_48, xt_X11_box, xf_X11_box, us_X11_loopOf, us_Jx4a65c_size_8abf5, us_X11_isWard, us_X11_isPlace, us_X11_isBoxNumber, us_X9_hasRoomFor, us_X2_init, us_X2_hang, us_X2_stand, us_Jx4a65c_add_9ea2d, r2, d4]
            try simp (disch := omega) only [wI_id, dv_nn, rm_nn]
            repeat' (first | intro z | apply And.intro)
            all_goals try omega
            all_goals try contradiction
            all_goals exact wz
      clear w71 w42 w69
      refine go_X11_box (ct := fun p => p == 44 || p == 42) 40 ?_
      simp only [oI, oL, oR, o1, lI, lL, lR, popN, catS, gv, stL, stL2, swt, cnd, spObj, List.getElem?_cons_zero, List.getElem?_cons_succ, List.getD_cons_zero, List.getD_cons_succ, List.set_cons_zero, List.set_cons_succ, List.nil_append, List.cons_append, Option.toList, Bool.or_false, Bool.false_or, Bool.or_true, Bool.true_or, Nat.reduceBEq, Nat.reduceAdd, Nat.reduceLT, Nat.reduceLeDiff, Int.reduceAdd, Int.reduceToNat, true_and, and_true, Fin.isValue, Fin.val_zero, Fin.val_one, Fin.val_two, Fin.reduceFinMk, eq_self, Int.reduceNeg, imp_self, Nat.reduceMul, Nat.le_refl, not_true_eq_false, not_false_eq_true, List.getElem?_nil, reduceCtorEq, true_or, or_true, Classical.not_not, implies_true, or_self, wI_0, wI_1, wI_m1, b2i_w, b2i_eq0, b2i_eq1, b2i_bool, nor_self, nx_pI, kd_pI, ln_pI, fI_pI, fL_pI, fR_pI, aI_pI, aL_pI, aR_pI, nx_pL, kd_pL, ln_pL, fI_pL, fL_pL, fR_pL, aI_pL, aL_pL, aR_pL, nx_pR, kd_pR, ln_pR, fI_pR, fL_pR, fR_pR, aI_pR, aL_pR, aR_pR, nx_qI, kd_qI, ln_qI, fI_qI, fL_qI, fR_qI, aI_qI, aL_qI, aR_qI, nx_qL, kd_qL, ln_qL, fI_qL, fL_qL, fR_qL, aI_qL, aL_qL, aR_qL, nx_qR, kd_qR, ln_qR, fI_qR, fL_qR, fR_qR, aI_qR, aL_qR, aR_qR, nx_mk, kd_mk, ln_mk, fI_mk, fL_mk, fR_mk, aI_mk, aL_mk, aR_mk, false_and, and_false, if_false, if_true, and_self, Int.reduceEq, Nat.reduceEqDiff, ite_self, MLay_pI, MLay_pL, MLay_qI, MLay_qL, ev_X11_box_0, ev_X11_box_1, ev_X11_box_2, ev_X11_box_5, ev_X11_box_7, ev_X11_box_9, ev_X11_box_12, ev_X11_box_13, ev_X11_box_16, ev_X11_box_19, ev_X11_box_21, ev_X11_box_24, ev_X11_box_26, ev_X11_box_29, ev_X11_box_32, ev_X11_box_34, ev_X11_box_36, ev_X11_box_39, xt_X11_box, xf_X11_box, us_X11_loopOf, us_Jx4a65c_size_8abf5, us_X11_isWard, us_X11_isPlace, us_X11_isBoxNumber, us_X9_hasRoomFor, us_X2_init, us_X2_hang, us_X2_stand, us_Jx4a65c_add_9ea2d, hC, hC.eqs, r1, r4, r5, r6, e, hne, hk14, d2, d3]
      try simp (disch := omega) only [wI_id, dv_nn, rm_nn]
      repeat' (first | intro z | apply And.intro)
      all_goals try omega
      all_goals try contradiction
      all_goals exact w44
    · have wz := w42 (fun z => c2 ⟨z.2.1, z.2.2.1, z.2.2.2.1⟩) (some (vr (45 + 4 * l))) none
      clear w71 w42 w69
      by_cases d1 : fI σ 1402 3 < 32
      · by_cases d2 : 0 ≤ w ∧ w ≤ 7
        · have d3 : ¬ ((0 ≤ x ∧ x ≤ 99) ∧ 0 ≤ y ∧ y ≤ 99) := fun z => c2 ⟨d1, d2, z⟩
          refine go_X11_box (ct := fun p => p == 44 || p == 42) 40 ?_
          simp only [oI, oL, oR, o1, lI, lL, lR, popN, catS, gv, stL, stL2, swt, cnd, spObj, List.getElem?_cons_zero, List.getElem?_cons_succ, List.getD_cons_zero, List.getD_cons_succ, List.set_cons_zero, List.set_cons_succ, List.nil_append, List.cons_append, Option.toList, Bool.or_false, Bool.false_or, Bool.or_true, Bool.true_or, Nat.reduceBEq, Nat.reduceAdd, Nat.reduceLT, Nat.reduceLeDiff, Int.reduceAdd, Int.reduceToNat, true_and, and_true, Fin.isValue, Fin.val_zero, Fin.val_one, Fin.val_two, Fin.reduceFinMk, eq_self, Int.reduceNeg, imp_self, Nat.reduceMul, Nat.le_refl, not_true_eq_false, not_false_eq_true, List.getElem?_nil, reduceCtorEq, true_or, or_true, Classical.not_not, implies_true, or_self, wI_0, wI_1, wI_m1, b2i_w, b2i_eq0, b2i_eq1, b2i_bool, nor_self, nx_pI, kd_pI, ln_pI, fI_pI, fL_pI, fR_pI, aI_pI, aL_pI, aR_pI, nx_pL, kd_pL, ln_pL, fI_pL, fL_pL, fR_pL, aI_pL, aL_pL, aR_pL, nx_pR, kd_pR, ln_pR, fI_pR, fL_pR, fR_pR, aI_pR, aL_pR, aR_pR, nx_qI, kd_qI, ln_qI, fI_qI, fL_qI, fR_qI, aI_qI, aL_qI, aR_qI, nx_qL, kd_qL, ln_qL, fI_qL, fL_qL, fR_qL, aI_qL, aL_qL, aR_qL, nx_qR, kd_qR, ln_qR, fI_qR, fL_qR, fR_qR, aI_qR, aL_qR, aR_qR, nx_mk, kd_mk, ln_mk, fI_mk, fL_mk, fR_mk, aI_mk, aL_mk, aR_mk, false_and, and_false, if_false, if_true, and_self, Int.reduceEq, Nat.reduceEqDiff, ite_self, MLay_pI, MLay_pL, MLay_qI, MLay_qL, ev_X11_box_0, ev_X11_box_1, ev_X11_box_2, ev_X11_box_5, ev_X11_box_7, ev_X11_box_9, ev_X11_box_12, ev_X11_box_13, ev_X11_box_16, ev_X11_box_19, ev_X11_box_21, ev_X11_box_24, ev_X11_box_26, ev_X11_box_29, ev_X11_box_32, ev_X11_box_34, ev_X11_box_36, ev_X11_box_39, xt_X11_box, xf_X11_box, us_X11_loopOf, us_Jx4a65c_size_8abf5, us_X11_isWard, us_X11_isPlace, us_X11_isBoxNumber, us_X9_hasRoomFor, us_X2_init, us_X2_hang, us_X2_stand, us_Jx4a65c_add_9ea2d, hC, hC.eqs, r1, r4, r5, r6, e, hne, hk14, d2, d3]
          try simp (disch := omega) only [wI_id, dv_nn, rm_nn]
          repeat' (first | intro z | apply And.intro)
          all_goals try omega
          all_goals try contradiction
          all_goals exact wz
        · refine go_X11_box (ct := fun p => p == 32 || p == 42) 40 ?_
          simp only [oI, oL, oR, o1, lI, lL, lR, popN, catS, gv, stL, stL2, swt, cnd, spObj, List.getElem?_cons_zero, List.getElem?_cons_succ, List.getD_cons_zero, List.getD_cons_succ, List.set_cons_zero, List.set_cons_succ, List.nil_append, List.cons_append, Option.toList, Bool.or_false, Bool.false_or, Bool.or_true, Bool.true_or, Nat.reduceBEq, Nat.reduceAdd, Nat.reduceLT, Nat.reduceLeDiff, Int.reduceAdd, Int.reduceToNat, true_and, and_true, Fin.isValue, Fin.val_zero, Fin.val_one, Fin.val_two, Fin.reduceFinMk, eq_self, Int.reduceNeg, imp_self, Nat.reduceMul, Nat.le_refl, not_true_eq_false, not_false_eq_true, List.getElem?_nil, reduceCtorEq, true_or, or_true, Classical.not_not, implies_true, or_self, wI_0, wI_1, wI_m1, b2i_w, b2i_eq0, b2i_eq1, b2i_bool, nor_self, nx_pI, kd_pI, ln_pI, fI_pI, fL_pI, fR_pI, aI_pI, aL_pI, aR_pI, nx_pL, kd_pL, ln_pL, fI_pL, fL_pL, fR_pL, aI_pL, aL_pL, aR_pL, nx_pR, kd_pR, ln_pR, fI_pR, fL_pR, fR_pR, aI_pR, aL_pR, aR_pR, nx_qI, kd_qI, ln_qI, fI_qI, fL_qI, fR_qI, aI_qI, aL_qI, aR_qI, nx_qL, kd_qL, ln_qL, fI_qL, fL_qL, fR_qL, aI_qL, aL_qL, aR_qL, nx_qR, kd_qR, ln_qR, fI_qR, fL_qR, fR_qR, aI_qR, aL_qR, aR_qR, nx_mk, kd_mk, ln_mk, fI_mk, fL_mk, fR_mk, aI_mk, aL_mk, aR_mk, false_and, and_false, if_false, if_true, and_self, Int.reduceEq, Nat.reduceEqDiff, ite_self, MLay_pI, MLay_pL, MLay_qI, MLay_qL, ev_X11_box_0, ev_X11_box_1, ev_X11_box_2, ev_X11_box_5, ev_X11_box_7, ev_X11_box_9, ev_X11_box_12, ev_X11_box_13, ev_X11_box_16, ev_X11_box_19, ev_X11_box_21, ev_X11_box_24, ev_X11_box_26, ev_X11_box_29, xt_X11_box, xf_X11_box, us_X11_loopOf, us_Jx4a65c_size_8abf5, us_X11_isWard, us_X11_isPlace, us_X11_isBoxNumber, us_X9_hasRoomFor, us_X2_init, us_X2_hang, us_X2_stand, us_Jx4a65c_add_9ea2d, hC, hC.eqs, r1, r6, e, hne, hk14, d2]
          try simp (disch := omega) only [wI_id, dv_nn, rm_nn]
          repeat' (first | intro z | apply And.intro)
          all_goals try omega
          all_goals try contradiction
          all_goals exact wz
      · refine go_X11_box (ct := fun p => p == 24 || p == 42) 40 ?_
        simp only [oI, oL, oR, o1, lI, lL, lR, popN, catS, gv, stL, stL2, swt, cnd, spObj, List.getElem?_cons_zero, List.getElem?_cons_succ, List.getD_cons_zero, List.getD_cons_succ, List.set_cons_zero, List.set_cons_succ, List.nil_append, List.cons_append, Option.toList, Bool.or_false, Bool.false_or, Bool.or_true, Bool.true_or, Nat.reduceBEq, Nat.reduceAdd, Nat.reduceLT, Nat.reduceLeDiff, Int.reduceAdd, Int.reduceToNat, true_and, and_true, Fin.isValue, Fin.val_zero, Fin.val_one, Fin.val_two, Fin.reduceFinMk, eq_self, Int.reduceNeg, imp_self, Nat.reduceMul, Nat.le_refl, not_true_eq_false, not_false_eq_true, List.getElem?_nil, reduceCtorEq, true_or, or_true, Classical.not_not, implies_true, or_self, wI_0, wI_1, wI_m1, b2i_w, b2i_eq0, b2i_eq1, b2i_bool, nor_self, nx_pI, kd_pI, ln_pI, fI_pI, fL_pI, fR_pI, aI_pI, aL_pI, aR_pI, nx_pL, kd_pL, ln_pL, fI_pL, fL_pL, fR_pL, aI_pL, aL_pL, aR_pL, nx_pR, kd_pR, ln_pR, fI_pR, fL_pR, fR_pR, aI_pR, aL_pR, aR_pR, nx_qI, kd_qI, ln_qI, fI_qI, fL_qI, fR_qI, aI_qI, aL_qI, aR_qI, nx_qL, kd_qL, ln_qL, fI_qL, fL_qL, fR_qL, aI_qL, aL_qL, aR_qL, nx_qR, kd_qR, ln_qR, fI_qR, fL_qR, fR_qR, aI_qR, aL_qR, aR_qR, nx_mk, kd_mk, ln_mk, fI_mk, fL_mk, fR_mk, aI_mk, aL_mk, aR_mk, false_and, and_false, if_false, if_true, and_self, Int.reduceEq, Nat.reduceEqDiff, ite_self, MLay_pI, MLay_pL, MLay_qI, MLay_qL, ev_X11_box_0, ev_X11_box_1, ev_X11_box_2, ev_X11_box_5, ev_X11_box_7, ev_X11_box_9, ev_X11_box_12, ev_X11_box_13, ev_X11_box_16, ev_X11_box_19, ev_X11_box_21, xt_X11_box, xf_X11_box, us_X11_loopOf, us_Jx4a65c_size_8abf5, us_X11_isWard, us_X11_isPlace, us_X11_isBoxNumber, us_X9_hasRoomFor, us_X2_init, us_X2_hang, us_X2_stand, us_Jx4a65c_add_9ea2d, hC, hC.eqs, r1, e, hne, hk14]
        try simp (disch := omega) only [wI_id, dv_nn, rm_nn]
        repeat' (first | intro z | apply And.intro)
        all_goals try omega
        all_goals try contradiction
        all_goals exact wz
  · have e : (if 0 ≤ l ∧ l < 4 then 45 + 4 * l else 0) = 0 := if_neg c1
    have h2 := h2 (fun z => c1 z.1)
    clear h1 hd hO
    refine go_X11_box (ct := fun p => p == 12) 40 ?_
    simp only [oI, oL, oR, o1, lI, lL, lR, popN, catS, gv, stL, stL2, swt, cnd, spObj, List.getElem?_cons_zero, List.getElem?_cons_succ, List.getD_cons_zero, List.getD_cons_succ, List.set_cons_zero, List.set_cons_succ, List.nil_append, List.cons_append, Option.toList, Bool.or_false, Bool.false_or, Bool.or_true, Bool.true_or, Nat.reduceBEq, Nat.reduceAdd, Nat.reduceLT, Nat.reduceLeDiff, Int.reduceAdd, Int.reduceToNat, true_and, and_true, Fin.isValue, Fin.val_zero, Fin.val_one, Fin.val_two, Fin.reduceFinMk, eq_self, Int.reduceNeg, imp_self, Nat.reduceMul, Nat.le_refl, not_true_eq_false, not_false_eq_true, List.getElem?_nil, reduceCtorEq, true_or, or_true, Classical.not_not, implies_true, or_self, wI_0, wI_1, wI_m1, b2i_w, b2i_eq0, b2i_eq1, b2i_bool, nor_self, nx_pI, kd_pI, ln_pI, fI_pI, fL_pI, fR_pI, aI_pI, aL_pI, aR_pI, nx_pL, kd_pL, ln_pL, fI_pL, fL_pL, fR_pL, aI_pL, aL_pL, aR_pL, nx_pR, kd_pR, ln_pR, fI_pR, fL_pR, fR_pR, aI_pR, aL_pR, aR_pR, nx_qI, kd_qI, ln_qI, fI_qI, fL_qI, fR_qI, aI_qI, aL_qI, aR_qI, nx_qL, kd_qL, ln_qL, fI_qL, fL_qL, fR_qL, aI_qL, aL_qL, aR_qL, nx_qR, kd_qR, ln_qR, fI_qR, fL_qR, fR_qR, aI_qR, aL_qR, aR_qR, nx_mk, kd_mk, ln_mk, fI_mk, fL_mk, fR_mk, aI_mk, aL_mk, aR_mk, false_and, and_false, if_false, if_true, and_self, Int.reduceEq, Nat.reduceEqDiff, ite_self, MLay_pI, MLay_pL, MLay_qI, MLay_qL, ev_X11_box_0, ev_X11_box_1, ev_X11_box_2, ev_X11_box_5, ev_X11_box_7, ev_X11_box_9, ev_X11_box_42, ev_X11_box_43, xt_X11_box, xf_X11_box, us_X11_loopOf, us_Jx4a65c_size_8abf5, us_X11_isWard, us_X11_isPlace, us_X11_isBoxNumber, us_X9_hasRoomFor, us_X2_init, us_X2_hang, us_X2_stand, us_Jx4a65c_add_9ea2d, hC, hC.eqs, r1, e]
    repeat' (first | intro z | apply And.intro)
    all_goals try omega
    all_goals try contradiction
    all_goals exact h2

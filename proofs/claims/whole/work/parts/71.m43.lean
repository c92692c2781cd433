/-! the reference's constructor -/

/-- arrays made one behind another, each kept in a field of the object o -/
def mkN (σ : Hp) (o : Int) (L : List (Nat × Nat × Int)) : Nat → Hp
  | 0 => σ
  | i + 1 => pR (mk (mkN σ o L i) (L.getD i (0, 0, 0)).2.1 (L.getD i (0, 0, 0)).2.2) (L.getD i (0, 0, 0)).1 o (nx σ + i)
theorem nx_mkN (σ : Hp) (o : Int) (L : List (Nat × Nat × Int)) : ∀ i : Nat, nx (mkN σ o L i) = nx σ + i
  | 0 => by show nx σ = _; omega
  | i + 1 => by
    unfold mkN
    rw [nx_pR, nx_mk, nx_mkN σ o L i]; omega
theorem kd_mkN (σ : Hp) (o : Int) (L : List (Nat × Nat × Int)) {k : Int} (h : k < nx σ) : ∀ i : Nat, kd (mkN σ o L i) k = kd σ k
  | 0 => rfl
  | i + 1 => by
    unfold mkN
    rw [kd_pR, kd_mk, nx_mkN, if_neg (by omega), kd_mkN σ o L h i]
theorem ln_mkN (σ : Hp) (o : Int) (L : List (Nat × Nat × Int)) {k : Int} (h : k < nx σ) : ∀ i : Nat, ln (mkN σ o L i) k = ln σ k
  | 0 => rfl
  | i + 1 => by
    unfold mkN
    rw [ln_pR, ln_mk, nx_mkN, if_neg (by omega), ln_mkN σ o L h i]
theorem kd_mkN_at (σ : Hp) (o : Int) (L : List (Nat × Nat × Int)) (j : Nat) : ∀ i : Nat, j < i → kd (mkN σ o L i) (nx σ + j) = (L.getD j (0, 0, 0)).2.1 ∧ ln (mkN σ o L i) (nx σ + j) = (L.getD j (0, 0, 0)).2.2
  | 0, h => by omega
  | i + 1, h => by
    unfold mkN
    rw [kd_pR, kd_mk, ln_pR, ln_mk, nx_mkN]
    by_cases e : j = i
    · subst e; rw [if_pos rfl, if_pos rfl]; exact ⟨rfl, rfl⟩
    · rw [if_neg (by omega), if_neg (by omega)]
      exact kd_mkN_at σ o L j i (by omega)
theorem fR_mkN (σ : Hp) (o : Int) (L : List (Nat × Nat × Int)) {f : Nat} {k : Int} : ∀ i : Nat, (∀ j : Nat, j < i → ¬ (f = (L.getD j (0, 0, 0)).1 ∧ k = o)) → fR (mkN σ o L i) f k = fR σ f k
  | 0, _ => rfl
  | i + 1, h => by
    unfold mkN
    rw [fR_pR, fR_mk, if_neg (h i (Nat.lt_succ_self i)), fR_mkN σ o L i (fun j q => h j (Nat.lt_succ_of_lt q))]
theorem fR_mkN_at (σ : Hp) (o : Int) (L : List (Nat × Nat × Int)) (hN : ∀ a b : Nat, a < b → b < L.length → ¬ (L.getD a (0, 0, 0)).1 = (L.getD b (0, 0, 0)).1) (j : Nat) : ∀ i : Nat, j < i → i ≤ L.length → fR (mkN σ o L i) (L.getD j (0, 0, 0)).1 o = nx σ + j
  | 0, h, _ => by omega
  | i + 1, h, hL => by
    unfold mkN
    rw [fR_pR, fR_mk]
    by_cases e : j = i
    · subst e; rw [if_pos ⟨rfl, rfl⟩]
    · rw [if_neg (fun q => hN j i (by omega) (by omega) q.1)]
      exact fR_mkN_at σ o L hN j i (by omega) (by omega)
theorem fI_mkN (σ : Hp) (o : Int) (L : List (Nat × Nat × Int)) : ∀ i : Nat, fI (mkN σ o L i) = fI σ
  | 0 => rfl
  | i + 1 => by unfold mkN; rw [fI_pR, fI_mk, fI_mkN σ o L i]
theorem fL_mkN (σ : Hp) (o : Int) (L : List (Nat × Nat × Int)) : ∀ i : Nat, fL (mkN σ o L i) = fL σ
  | 0 => rfl
  | i + 1 => by unfold mkN; rw [fL_pR, fL_mk, fL_mkN σ o L i]
theorem aI_mkN (σ : Hp) (o : Int) (L : List (Nat × Nat × Int)) : ∀ i : Nat, aI (mkN σ o L i) = aI σ
  | 0 => rfl
  | i + 1 => by unfold mkN; rw [aI_pR, aI_mk, aI_mkN σ o L i]
theorem aL_mkN (σ : Hp) (o : Int) (L : List (Nat × Nat × Int)) : ∀ i : Nat, aL (mkN σ o L i) = aL σ
  | 0 => rfl
  | i + 1 => by unfold mkN; rw [aL_pR, aL_mk, aL_mkN σ o L i]
theorem aR_mkN (σ : Hp) (o : Int) (L : List (Nat × Nat × Int)) : ∀ i : Nat, aR (mkN σ o L i) = aR σ
  | 0 => rfl
  | i + 1 => by unfold mkN; rw [aR_pR, aR_mk, aR_mkN σ o L i]
/-- a row's first n elements written -/
def wrN (σ : Hp) (r v : Int) : Nat → Hp
  | 0 => σ
  | n + 1 => qI (wrN σ r v n) r n v
theorem nx_wrN (σ : Hp) (r v : Int) : ∀ n : Nat, nx (wrN σ r v n) = nx σ
  | 0 => rfl
  | n + 1 => by unfold wrN; rw [nx_qI, nx_wrN σ r v n]
theorem kd_wrN (σ : Hp) (r v : Int) : ∀ n : Nat, kd (wrN σ r v n) = kd σ
  | 0 => rfl
  | n + 1 => by unfold wrN; rw [kd_qI, kd_wrN σ r v n]
theorem ln_wrN (σ : Hp) (r v : Int) : ∀ n : Nat, ln (wrN σ r v n) = ln σ
  | 0 => rfl
  | n + 1 => by unfold wrN; rw [ln_qI, ln_wrN σ r v n]
theorem fI_wrN (σ : Hp) (r v : Int) : ∀ n : Nat, fI (wrN σ r v n) = fI σ
  | 0 => rfl
  | n + 1 => by unfold wrN; rw [fI_qI, fI_wrN σ r v n]
theorem fL_wrN (σ : Hp) (r v : Int) : ∀ n : Nat, fL (wrN σ r v n) = fL σ
  | 0 => rfl
  | n + 1 => by unfold wrN; rw [fL_qI, fL_wrN σ r v n]
theorem fR_wrN (σ : Hp) (r v : Int) : ∀ n : Nat, fR (wrN σ r v n) = fR σ
  | 0 => rfl
  | n + 1 => by unfold wrN; rw [fR_qI, fR_wrN σ r v n]
theorem aL_wrN (σ : Hp) (r v : Int) : ∀ n : Nat, aL (wrN σ r v n) = aL σ
  | 0 => rfl
  | n + 1 => by unfold wrN; rw [aL_qI, aL_wrN σ r v n]
theorem aR_wrN (σ : Hp) (r v : Int) : ∀ n : Nat, aR (wrN σ r v n) = aR σ
  | 0 => rfl
  | n + 1 => by unfold wrN; rw [aR_qI, aR_wrN σ r v n]
theorem aI_wrN (σ : Hp) (r v : Int) (s j : Int) : ∀ n : Nat, aI (wrN σ r v n) s j = if s = r ∧ 0 ≤ j ∧ j < n then v else aI σ s j
  | 0 => by rw [if_neg (by omega)]; rfl
  | n + 1 => by
    unfold wrN
    rw [aI_qI, aI_wrN σ r v s j n]
    by_cases e : s = r ∧ j = n
    · rw [if_pos e, if_pos (by omega)]
    · rw [if_neg e]
      by_cases e2 : s = r ∧ 0 ≤ j ∧ j < n
      · rw [if_pos e2, if_pos (by omega)]
      · rw [if_neg e2, if_neg (by omega)]
def iniL : List (Nat × Nat × Int) := [(1303, 101, 32), (1304, 101, 32), (1305, 101, 32), (1306, 101, 32), (1307, 101, 32), (1308, 101, 32), (1309, 101, 32), (1310, 101, 32), (1311, 103, 32), (1312, 101, 480), (1313, 101, 32), (1314, 101, 32), (1315, 101, 4), (1316, 101, 48), (1317, 103, 52), (1318, 101, 4), (1319, 101, 4), (1320, 101, 2000), (1324, 101, 600), (1325, 101, 600), (1326, 103, 3600), (1327, 102, 18000), (1328, 102, 5), (1333, 101, 12), (1334, 101, 12), (1336, 101, 20), (1337, 101, 20), (1338, 101, 20), (1339, 101, 20), (1340, 101, 20), (1344, 101, 1000), (1354, 101, 48), (1355, 101, 48), (1356, 101, 48), (1357, 101, 48), (1358, 101, 2000), (1360, 101, 6), (1361, 103, 6), (1362, 101, 6), (1363, 101, 6), (1364, 101, 6), (1365, 101, 6), (1366, 101, 6), (1367, 101, 6), (1368, 101, 6), (1369, 101, 6), (1370, 101, 8), (1372, 101, 100), (1373, 101, 100), (1374, 101, 100), (1375, 103, 100), (1376, 103, 100), (1377, 101, 100), (1378, 101, 100), (1379, 101, 2000), (1381, 101, 200), (1382, 103, 200), (1383, 101, 200)]
/-- the reference as it is made -/
def mIni (σ : Hp) : Hp := pI (pI (pI (wrN (wrN (mkN σ 62 iniL 58) 78 (-1000) 4) 70 (-1) 32) 1341 62 3) 1342 62 40) 1321 62 (-1)

def sp_X12_init : Sp := fun av σ Q => oR av fun this av => av = [] ∧ kd σ this = 13 ∧ (this = 62 ∧ nx σ = 63 ∧ Q none (mIni σ))
theorem us_X12_init (this : Int) (σ : Hp) (Q : Option AV → Hp → Prop) : sp_X12_init [vr this] σ Q = (kd σ this = 13 ∧ (this = 62 ∧ nx σ = 63 ∧ Q none (mIni σ))) := propext ⟨fun h => h.2, fun h => ⟨rfl, h⟩⟩
theorem el_X12_init {av : List AV} {σ : Hp} {Q : Option AV → Hp → Prop} (h : sp_X12_init av σ Q) : ∃ (this : Int), av = [vr this] ∧ (kd σ this = 13 ∧ (this = 62 ∧ nx σ = 63 ∧ Q none (mIni σ))) := by
  obtain ⟨this, a0, rfl, h0⟩ := oR_s h
  obtain ⟨rfl, hz⟩ := h0
  exact ⟨this, rfl, hz⟩
theorem rc_X12_init : ∀ (av : List AV) (σ : Hp) (Q : Option AV → Hp → Prop), sp_X12_init av σ Q → ∃ r tl, av = vr r :: tl ∧ kd σ r = 12 + 1 := fun av σ Q h => by
  obtain ⟨this, rfl, hz, -⟩ := el_X12_init h
  exact ⟨this, _, rfl, hz⟩
theorem rcn_X12_init : ∀ (av : List AV) (σ : Hp) (Q : Option AV → Hp → Prop), sp_X12_init av σ Q → ∃ r tl, av = vr r :: tl ∧ kd σ r ≠ 0 := fun av σ Q h => by
  obtain ⟨r, tl, e, hz⟩ := rc_X12_init av σ Q h
  exact ⟨r, tl, e, by omega⟩

def tb_X12_init : Tab := [(0, .aload_n 0, 1, (0, 0, 0, 0)), (1, .invokespecial 1, 3, (0, 0, 0, 0)), (4, .aload_n 0, 1, (0, 0, 0, 0)), (5, .bipush 32, 2, (0, 0, 0, 0)), (7, .newarray .int, 2, (101, 0, 0, 0)), (9, .putfield 7, 3, (13, 1303, 2, 0)), (12, .aload_n 0, 1, (0, 0, 0, 0)), (13, .bipush 32, 2, (0, 0, 0, 0)), (15, .newarray .int, 2, (101, 0, 0, 0)), (17, .putfield 13, 3, (13, 1304, 2, 0)), (20, .aload_n 0, 1, (0, 0, 0, 0)), (21, .bipush 32, 2, (0, 0, 0, 0)), (23, .newarray .int, 2, (101, 0, 0, 0)), (25, .putfield 16, 3, (13, 1305, 2, 0)), (28, .aload_n 0, 1, (0, 0, 0, 0)), (29, .bipush 32, 2, (0, 0, 0, 0)), (31, .newarray .int, 2, (101, 0, 0, 0)), (33, .putfield 19, 3, (13, 1306, 2, 0)), (36, .aload_n 0, 1, (0, 0, 0, 0)), (37, .bipush 32, 2, (0, 0, 0, 0)), (39, .newarray .int, 2, (101, 0, 0, 0)), (41, .putfield 22, 3, (13, 1307, 2, 0)), (44, .aload_n 0, 1, (0, 0, 0, 0)), (45, .bipush 32, 2, (0, 0, 0, 0)), (47, .newarray .int, 2, (101, 0, 0, 0)), (49, .putfield 25, 3, (13, 1308, 2, 0)), (52, .aload_n 0, 1, (0, 0, 0, 0)), (53, .bipush 32, 2, (0, 0, 0, 0)), (55, .newarray .int, 2, (101, 0, 0, 0)), (57, .putfield 28, 3, (13, 1309, 2, 0)), (60, .aload_n 0, 1, (0, 0, 0, 0)), (61, .bipush 32, 2, (0, 0, 0, 0)), (63, .newarray .int, 2, (101, 0, 0, 0)), (65, .putfield 31, 3, (13, 1310, 2, 0)), (68, .aload_n 0, 1, (0, 0, 0, 0)), (69, .bipush 32, 2, (0, 0, 0, 0)), (71, .newarray .boolean, 2, (103, 0, 0, 0)), (73, .putfield 34, 3, (13, 1311, 2, 0)), (76, .aload_n 0, 1, (0, 0, 0, 0)), (77, .sipush 480, 3, (0, 0, 0, 0)), (80, .newarray .int, 2, (101, 0, 0, 0)), (82, .putfield 38, 3, (13, 1312, 2, 0)), (85, .aload_n 0, 1, (0, 0, 0, 0)), (86, .bipush 32, 2, (0, 0, 0, 0)), (88, .newarray .int, 2, (101, 0, 0, 0)), (90, .putfield 41, 3, (13, 1313, 2, 0)), (93, .aload_n 0, 1, (0, 0, 0, 0)), (94, .bipush 32, 2, (0, 0, 0, 0)), (96, .newarray .int, 2, (101, 0, 0, 0)), (98, .putfield 44, 3, (13, 1314, 2, 0)), (101, .aload_n 0, 1, (0, 0, 0, 0)), (102, .iconst 4, 1, (0, 0, 0, 0)), (103, .newarray .int, 2, (101, 0, 0, 0)), (105, .putfield 47, 3, (13, 1315, 2, 0)), (108, .aload_n 0, 1, (0, 0, 0, 0)), (109, .bipush 48, 2, (0, 0, 0, 0)), (111, .newarray .int, 2, (101, 0, 0, 0)), (113, .putfield 50, 3, (13, 1316, 2, 0)), (116, .aload_n 0, 1, (0, 0, 0, 0)), (117, .bipush 52, 2, (0, 0, 0, 0)), (119, .newarray .boolean, 2, (103, 0, 0, 0)), (121, .putfield 53, 3, (13, 1317, 2, 0)), (124, .aload_n 0, 1, (0, 0, 0, 0)), (125, .iconst 4, 1, (0, 0, 0, 0)), (126, .newarray .int, 2, (101, 0, 0, 0)), (128, .putfield 56, 3, (13, 1318, 2, 0)), (131, .aload_n 0, 1, (0, 0, 0, 0)), (132, .iconst 4, 1, (0, 0, 0, 0)), (133, .newarray .int, 2, (101, 0, 0, 0)), (135, .putfield 59, 3, (13, 1319, 2, 0)), (138, .aload_n 0, 1, (0, 0, 0, 0)), (139, .sipush 2000, 3, (0, 0, 0, 0)), (142, .newarray .int, 2, (101, 0, 0, 0)), (144, .putfield 62, 3, (13, 1320, 2, 0)), (147, .aload_n 0, 1, (0, 0, 0, 0)), (148, .sipush 600, 3, (0, 0, 0, 0)), (151, .newarray .int, 2, (101, 0, 0, 0)), (153, .putfield 65, 3, (13, 1324, 2, 0)), (156, .aload_n 0, 1, (0, 0, 0, 0)), (157, .sipush 600, 3, (0, 0, 0, 0)), (160, .newarray .int, 2, (101, 0, 0, 0)), (162, .putfield 68, 3, (13, 1325, 2, 0)), (165, .aload_n 0, 1, (0, 0, 0, 0)), (166, .sipush 3600, 3, (0, 0, 0, 0)), (169, .newarray .boolean, 2, (103, 0, 0, 0)), (171, .putfield 71, 3, (13, 1326, 2, 0)), (174, .aload_n 0, 1, (0, 0, 0, 0)), (175, .sipush 18000, 3, (0, 0, 0, 0)), (178, .newarray .long, 2, (102, 0, 0, 0)), (180, .putfield 74, 3, (13, 1327, 2, 0)), (183, .aload_n 0, 1, (0, 0, 0, 0)), (184, .iconst 5, 1, (0, 0, 0, 0)), (185, .newarray .long, 2, (102, 0, 0, 0)), (187, .putfield 78, 3, (13, 1328, 2, 0)), (190, .aload_n 0, 1, (0, 0, 0, 0)), (191, .bipush 12, 2, (0, 0, 0, 0)), (193, .newarray .int, 2, (101, 0, 0, 0)), (195, .putfield 81, 3, (13, 1333, 2, 0)), (198, .aload_n 0, 1, (0, 0, 0, 0)), (199, .bipush 12, 2, (0, 0, 0, 0)), (201, .newarray .int, 2, (101, 0, 0, 0)), (203, .putfield 84, 3, (13, 1334, 2, 0)), (206, .aload_n 0, 1, (0, 0, 0, 0)), (207, .bipush 20, 2, (0, 0, 0, 0)), (209, .newarray .int, 2, (101, 0, 0, 0)), (211, .putfield 87, 3, (13, 1336, 2, 0)), (214, .aload_n 0, 1, (0, 0, 0, 0)), (215, .bipush 20, 2, (0, 0, 0, 0)), (217, .newarray .int, 2, (101, 0, 0, 0)), (219, .putfield 90, 3, (13, 1337, 2, 0)), (222, .aload_n 0, 1, (0, 0, 0, 0)), (223, .bipush 20, 2, (0, 0, 0, 0)), (225, .newarray .int, 2, (101, 0, 0, 0)), (227, .putfield 93, 3, (13, 1338, 2, 0)), (230, .aload_n 0, 1, (0, 0, 0, 0)), (231, .bipush 20, 2, (0, 0, 0, 0)), (233, .newarray .int, 2, (101, 0, 0, 0)), (235, .putfield 96, 3, (13, 1339, 2, 0)), (238, .aload_n 0, 1, (0, 0, 0, 0)), (239, .bipush 20, 2, (0, 0, 0, 0)), (241, .newarray .int, 2, (101, 0, 0, 0)), (243, .putfield 99, 3, (13, 1340, 2, 0)), (246, .aload_n 0, 1, (0, 0, 0, 0)), (247, .sipush 1000, 3, (0, 0, 0, 0)), (250, .newarray .int, 2, (101, 0, 0, 0)), (252, .putfield 102, 3, (13, 1344, 2, 0)), (255, .aload_n 0, 1, (0, 0, 0, 0)), (256, .bipush 48, 2, (0, 0, 0, 0)), (258, .newarray .int, 2, (101, 0, 0, 0)), (260, .putfield 105, 3, (13, 1354, 2, 0)), (263, .aload_n 0, 1, (0, 0, 0, 0)), (264, .bipush 48, 2, (0, 0, 0, 0)), (266, .newarray .int, 2, (101, 0, 0, 0)), (268, .putfield 108, 3, (13, 1355, 2, 0)), (271, .aload_n 0, 1, (0, 0, 0, 0)), (272, .bipush 48, 2, (0, 0, 0, 0)), (274, .newarray .int, 2, (101, 0, 0, 0)), (276, .putfield 111, 3, (13, 1356, 2, 0)), (279, .aload_n 0, 1, (0, 0, 0, 0)), (280, .bipush 48, 2, (0, 0, 0, 0)), (282, .newarray .int, 2, (101, 0, 0, 0)), (284, .putfield 114, 3, (13, 1357, 2, 0)), (287, .aload_n 0, 1, (0, 0, 0, 0)), (288, .sipush 2000, 3, (0, 0, 0, 0)), (291, .newarray .int, 2, (101, 0, 0, 0)), (293, .putfield 117, 3, (13, 1358, 2, 0)), (296, .aload_n 0, 1, (0, 0, 0, 0)), (297, .bipush 6, 2, (0, 0, 0, 0)), (299, .newarray .int, 2, (101, 0, 0, 0)), (301, .putfield 120, 3, (13, 1360, 2, 0)), (304, .aload_n 0, 1, (0, 0, 0, 0)), (305, .bipush 6, 2, (0, 0, 0, 0)), (307, .newarray .boolean, 2, (103, 0, 0, 0)), (309, .putfield 123, 3, (13, 1361, 2, 0)), (312, .aload_n 0, 1, (0, 0, 0, 0)), (313, .bipush 6, 2, (0, 0, 0, 0)), (315, .newarray .int, 2, (101, 0, 0, 0)), (317, .putfield 126, 3, (13, 1362, 2, 0)), (320, .aload_n 0, 1, (0, 0, 0, 0)), (321, .bipush 6, 2, (0, 0, 0, 0)), (323, .newarray .int, 2, (101, 0, 0, 0)), (325, .putfield 129, 3, (13, 1363, 2, 0)), (328, .aload_n 0, 1, (0, 0, 0, 0)), (329, .bipush 6, 2, (0, 0, 0, 0)), (331, .newarray .int, 2, (101, 0, 0, 0)), (333, .putfield 132, 3, (13, 1364, 2, 0)), (336, .aload_n 0, 1, (0, 0, 0, 0)), (337, .bipush 6, 2, (0, 0, 0, 0)), (339, .newarray .int, 2, (101, 0, 0, 0)), (341, .putfield 135, 3, (13, 1365, 2, 0)), (344, .aload_n 0, 1, (0, 0, 0, 0)), (345, .bipush 6, 2, (0, 0, 0, 0)), (347, .newarray .int, 2, (101, 0, 0, 0)), (349, .putfield 138, 3, (13, 1366, 2, 0)), (352, .aload_n 0, 1, (0, 0, 0, 0)), (353, .bipush 6, 2, (0, 0, 0, 0)), (355, .newarray .int, 2, (101, 0, 0, 0)), (357, .putfield 141, 3, (13, 1367, 2, 0)), (360, .aload_n 0, 1, (0, 0, 0, 0)), (361, .bipush 6, 2, (0, 0, 0, 0)), (363, .newarray .int, 2, (101, 0, 0, 0)), (365, .putfield 144, 3, (13, 1368, 2, 0)), (368, .aload_n 0, 1, (0, 0, 0, 0)), (369, .bipush 6, 2, (0, 0, 0, 0)), (371, .newarray .int, 2, (101, 0, 0, 0)), (373, .putfield 147, 3, (13, 1369, 2, 0)), (376, .aload_n 0, 1, (0, 0, 0, 0)), (377, .bipush 8, 2, (0, 0, 0, 0)), (379, .newarray .int, 2, (101, 0, 0, 0)), (381, .putfield 150, 3, (13, 1370, 2, 0)), (384, .aload_n 0, 1, (0, 0, 0, 0)), (385, .bipush 100, 2, (0, 0, 0, 0)), (387, .newarray .int, 2, (101, 0, 0, 0)), (389, .putfield 153, 3, (13, 1372, 2, 0)), (392, .aload_n 0, 1, (0, 0, 0, 0)), (393, .bipush 100, 2, (0, 0, 0, 0)), (395, .newarray .int, 2, (101, 0, 0, 0)), (397, .putfield 156, 3, (13, 1373, 2, 0)), (400, .aload_n 0, 1, (0, 0, 0, 0)), (401, .bipush 100, 2, (0, 0, 0, 0)), (403, .newarray .int, 2, (101, 0, 0, 0)), (405, .putfield 159, 3, (13, 1374, 2, 0)), (408, .aload_n 0, 1, (0, 0, 0, 0)), (409, .bipush 100, 2, (0, 0, 0, 0)), (411, .newarray .boolean, 2, (103, 0, 0, 0)), (413, .putfield 162, 3, (13, 1375, 2, 0)), (416, .aload_n 0, 1, (0, 0, 0, 0)), (417, .bipush 100, 2, (0, 0, 0, 0)), (419, .newarray .boolean, 2, (103, 0, 0, 0)), (421, .putfield 165, 3, (13, 1376, 2, 0)), (424, .aload_n 0, 1, (0, 0, 0, 0)), (425, .bipush 100, 2, (0, 0, 0, 0)), (427, .newarray .int, 2, (101, 0, 0, 0)), (429, .putfield 168, 3, (13, 1377, 2, 0)), (432, .aload_n 0, 1, (0, 0, 0, 0)), (433, .bipush 100, 2, (0, 0, 0, 0)), (435, .newarray .int, 2, (101, 0, 0, 0)), (437, .putfield 171, 3, (13, 1378, 2, 0)), (440, .aload_n 0, 1, (0, 0, 0, 0)), (441, .sipush 2000, 3, (0, 0, 0, 0)), (444, .newarray .int, 2, (101, 0, 0, 0)), (446, .putfield 174, 3, (13, 1379, 2, 0)), (449, .aload_n 0, 1, (0, 0, 0, 0)), (450, .sipush 200, 3, (0, 0, 0, 0)), (453, .newarray .int, 2, (101, 0, 0, 0)), (455, .putfield 177, 3, (13, 1381, 2, 0)), (458, .aload_n 0, 1, (0, 0, 0, 0)), (459, .sipush 200, 3, (0, 0, 0, 0)), (462, .newarray .boolean, 2, (103, 0, 0, 0)), (464, .putfield 180, 3, (13, 1382, 2, 0)), (467, .aload_n 0, 1, (0, 0, 0, 0)), (468, .sipush 200, 3, (0, 0, 0, 0)), (471, .newarray .int, 2, (101, 0, 0, 0)), (473, .putfield 183, 3, (13, 1383, 2, 0)), (476, .iconst 0, 1, (0, 0, 0, 0)), (477, .istore_n 1, 1, (0, 0, 0, 0)), (478, .iload_n 1, 1, (0, 0, 0, 0)), (479, .iconst 4, 1, (0, 0, 0, 0)), (480, .if_icmp .ge 18, 3, (0, 0, 0, 0)), (483, .aload_n 0, 1, (0, 0, 0, 0)), (484, .getfield 56, 3, (13, 1318, 2, 0)), (487, .iload_n 1, 1, (0, 0, 0, 0)), (488, .sipush (-1000), 3, (0, 0, 0, 0)), (491, .iastore, 1, (0, 0, 0, 0)), (492, .iinc 1 1, 3, (0, 0, 0, 0)), (495, .goto (-17), 3, (0, 0, 0, 0)), (498, .iconst 0, 1, (0, 0, 0, 0)), (499, .istore_n 1, 1, (0, 0, 0, 0)), (500, .iload_n 1, 1, (0, 0, 0, 0)), (501, .bipush 32, 2, (0, 0, 0, 0)), (503, .if_icmp .ge 16, 3, (0, 0, 0, 0)), (506, .aload_n 0, 1, (0, 0, 0, 0)), (507, .getfield 31, 3, (13, 1310, 2, 0)), (510, .iload_n 1, 1, (0, 0, 0, 0)), (511, .iconst (-1), 1, (0, 0, 0, 0)), (512, .iastore, 1, (0, 0, 0, 0)), (513, .iinc 1 1, 3, (0, 0, 0, 0)), (516, .goto (-16), 3, (0, 0, 0, 0)), (519, .aload_n 0, 1, (0, 0, 0, 0)), (520, .iconst 3, 1, (0, 0, 0, 0)), (521, .putfield 186, 3, (13, 1341, 0, 0)), (524, .aload_n 0, 1, (0, 0, 0, 0)), (525, .bipush 40, 2, (0, 0, 0, 0)), (527, .putfield 190, 3, (13, 1342, 0, 0)), (530, .aload_n 0, 1, (0, 0, 0, 0)), (531, .iconst (-1), 1, (0, 0, 0, 0)), (532, .putfield 193, 3, (13, 1321, 0, 0)), (535, .return_, 1, (0, 0, 0, 0))]
set_option maxRecDepth 100000 in
theorem tk_X12_init : TOK RX12 true cX12_init tb_X12_init := chkT_ok ft_X12 (by decide +kernel)
theorem rw_X12_10 : Row RX12 (.invokespecial 1) 3 1 0 0 0 spObj := row_obj (TBL_in 1498 (by decide +kernel) rfl) (TBL_in 148 (by decide +kernel) rfl) (TBL_in 149 (by decide +kernel) rfl)
def mt_X12_init : List (Nat × Mt) := [(10, 1, 0, 0, 0, spObj)]
theorem em_X12_init : mt_X12_init.lookup 10 = some (1, 0, 0, 0, spObj) := rfl
theorem mk_X12_init : MOK RX12 mt_X12_init := by
  intro q hq
  simp only [mt_X12_init, List.mem_cons, List.not_mem_nil, or_false] at hq
  rcases hq with rfl
  · exact rw_X12_10
noncomputable def xe_X12_init (ct : Nat → Bool) (K : Kt) (R : Option AV → Hp → Prop) (n : Nat) : Kt := exS 2 1 58 32433 0 tb_X12_init mt_X12_init ct K R n
noncomputable def xk_X12_init (ct : Nat → Bool) (K : Kt) (R : Option AV → Hp → Prop) (n : Nat) : Kt := exkS 2 1 58 32433 0 tb_X12_init mt_X12_init ct K R n
theorem xt_X12_init {ct : Nat → Bool} {K : Kt} {R : Option AV → Hp → Prop} {n pc : Nat} {ls : List (Option AV)} {st : List AV} {σ : Hp} {k : Nat × Nat} (h : ct pc = true) : xk_X12_init ct K R n pc ls st σ k = K pc ls st σ k := by unfold xk_X12_init exkS; rw [h]
theorem xf_X12_init {ct : Nat → Bool} {K : Kt} {R : Option AV → Hp → Prop} {n pc : Nat} {ls : List (Option AV)} {st : List AV} {σ : Hp} {k : Nat × Nat} (h : ct pc = false) : xk_X12_init ct K R n pc ls st σ k = xe_X12_init ct K R n pc ls st σ k := by unfold xk_X12_init exkS xe_X12_init; rw [h]
theorem ev_X12_init_0 {ct : Nat → Bool} {K : Kt} {R : Option AV → Hp → Prop} {n : Nat} {ls : List (Option AV)} {st : List AV} {σ : Hp} {k : Nat × Nat} : xe_X12_init ct K R (n + 1) 0 ls st σ k = (lR ls 0 fun x => xk_X12_init ct K R n 1 ls (vr x :: st) σ k) := exS_step.trans rfl
theorem ev_X12_init_1 {ct : Nat → Bool} {K : Kt} {R : Option AV → Hp → Prop} {n : Nat} {ls : List (Option AV)} {st : List AV} {σ : Hp} {k : Nat × Nat} : xe_X12_init ct K R (n + 1) 1 ls st σ k = (popN 1 st [] fun av rest => (catS rest ≤ 8 ∧ 0 < 1 ∧ k.1 + 0 ≤ 58 ∧ k.2 + 0 ≤ 32433) ∧ (spObj) av σ fun v σ' => xk_X12_init ct K R n 4 ls (v.toList ++ rest) σ' (k.1 + 0, k.2 + 0)) := exS_step.trans rfl
theorem ev_X12_init_4 {ct : Nat → Bool} {K : Kt} {R : Option AV → Hp → Prop} {n : Nat} {ls : List (Option AV)} {st : List AV} {σ : Hp} {k : Nat × Nat} : xe_X12_init ct K R (n + 1) 4 ls st σ k = (lR ls 0 fun x => xk_X12_init ct K R n 5 ls (vr x :: st) σ k) := exS_step.trans rfl
theorem ev_X12_init_5 {ct : Nat → Bool} {K : Kt} {R : Option AV → Hp → Prop} {n : Nat} {ls : List (Option AV)} {st : List AV} {σ : Hp} {k : Nat × Nat} : xe_X12_init ct K R (n + 1) 5 ls st σ k = (xk_X12_init ct K R n 7 ls (vi (32) :: st) σ k) := exS_step.trans rfl
theorem ev_X12_init_7 {ct : Nat → Bool} {K : Kt} {R : Option AV → Hp → Prop} {n : Nat} {ls : List (Option AV)} {st : List AV} {σ : Hp} {k : Nat × Nat} : xe_X12_init ct K R (n + 1) 7 ls st σ k = (oI st fun m st => (0 ≤ m ∧ m ≤ 65536) ∧ (k.1 + 1 ≤ 58 ∧ k.2 + m.toNat ≤ 32433) ∧ xk_X12_init ct K R n 9 ls (vr (nx σ) :: st) (mk σ 101 m) (k.1 + 1, k.2 + m.toNat)) := exS_step.trans rfl
theorem ev_X12_init_9 {ct : Nat → Bool} {K : Kt} {R : Option AV → Hp → Prop} {n : Nat} {ls : List (Option AV)} {st : List AV} {σ : Hp} {k : Nat × Nat} : xe_X12_init ct K R (n + 1) 9 ls st σ k = (oR st fun v st => oR st fun x st => kd σ x = 13 ∧ xk_X12_init ct K R n 12 ls st (pR σ 1303 x v) k) := exS_step.trans rfl
theorem ev_X12_init_12 {ct : Nat → Bool} {K : Kt} {R : Option AV → Hp → Prop} {n : Nat} {ls : List (Option AV)} {st : List AV} {σ : Hp} {k : Nat × Nat} : xe_X12_init ct K R (n + 1) 12 ls st σ k = (lR ls 0 fun x => xk_X12_init ct K R n 13 ls (vr x :: st) σ k) := exS_step.trans rfl
theorem ev_X12_init_13 {ct : Nat → Bool} {K : Kt} {R : Option AV → Hp → Prop} {n : Nat} {ls : List (Option AV)} {st : List AV} {σ : Hp} {k : Nat × Nat} : xe_X12_init ct K R (n + 1) 13 ls st σ k = (xk_X12_init ct K R n 15 ls (vi (32) :: st) σ k) := exS_step.trans rfl
theorem ev_X12_init_15 {ct : Nat → Bool} {K : Kt} {R : Option AV → Hp → Prop} {n : Nat} {ls : List (Option AV)} {st : List AV} {σ : Hp} {k : Nat × Nat} : xe_X12_init ct K R (n + 1) 15 ls st σ k = (oI st fun m st => (0 ≤ m ∧ m ≤ 65536) ∧ (k.1 + 1 ≤ 58 ∧ k.2 + m.toNat ≤ 32433) ∧ xk_X12_init ct K R n 17 ls (vr (nx σ) :: st) (mk σ 101 m) (k.1 + 1, k.2 + m.toNat)) := exS_step.trans rfl
theorem ev_X12_init_17 {ct : Nat → Bool} {K : Kt} {R : Option AV → Hp → Prop} {n : Nat} {ls : List (Option AV)} {st : List AV} {σ : Hp} {k : Nat × Nat} : xe_X12_init ct K R (n + 1) 17 ls st σ k = (oR st fun v st => oR st fun x st => kd σ x = 13 ∧ xk_X12_init ct K R n 20 ls st (pR σ 1304 x v) k) := exS_step.trans rfl
theorem ev_X12_init_20 {ct : Nat → Bool} {K : Kt} {R : Option AV → Hp → Prop} {n : Nat} {ls : List (Option AV)} {st : List AV} {σ : Hp} {k : Nat × Nat} : xe_X12_init ct K R (n + 1) 20 ls st σ k = (lR ls 0 fun x => xk_X12_init ct K R n 21 ls (vr x :: st) σ k) := exS_step.trans rfl
theorem ev_X12_init_21 {ct : Nat → Bool} {K : Kt} {R : Option AV → Hp → Prop} {n : Nat} {ls : List (Option AV)} {st : List AV} {σ : Hp} {k : Nat × Nat} : xe_X12_init ct K R (n + 1) 21 ls st σ k = (xk_X12_init ct K R n 23 ls (vi (32) :: st) σ k) := exS_step.trans rfl
theorem ev_X12_init_23 {ct : Nat → Bool} {K : Kt} {R : Option AV → Hp → Prop} {n : Nat} {ls : List (Option AV)} {st : List AV} {σ : Hp} {k : Nat × Nat} : xe_X12_init ct K R (n + 1) 23 ls st σ k = (oI st fun m st => (0 ≤ m ∧ m ≤ 65536) ∧ (k.1 + 1 ≤ 58 ∧ k.2 + m.toNat ≤ 32433) ∧ xk_X12_init ct K R n 25 ls (vr (nx σ) :: st) (mk σ 101 m) (k.1 + 1, k.2 + m.toNat)) := exS_step.trans rfl
theorem ev_X12_init_25 {ct : Nat → Bool} {K : Kt} {R : Option AV → Hp → Prop} {n : Nat} {ls : List (Option AV)} {st : List AV} {σ : Hp} {k : Nat × Nat} : xe_X12_init ct K R (n + 1) 25 ls st σ k = (oR st fun v st => oR st fun x st => kd σ x = 13 ∧ xk_X12_init ct K R n 28 ls st (pR σ 1305 x v) k) := exS_step.trans rfl
theorem ev_X12_init_28 {ct : Nat → Bool} {K : Kt} {R : Option AV → Hp → Prop} {n : Nat} {ls : List (Option AV)} {st : List AV} {σ : Hp} {k : Nat × Nat} : xe_X12_init ct K R (n + 1) 28 ls st σ k = (lR ls 0 fun x => xk_X12_init ct K R n 29 ls (vr x :: st) σ k) := exS_step.trans rfl
theorem ev_X12_init_29 {ct : Nat → Bool} {K : Kt} {R : Option AV → Hp → Prop} {n : Nat} {ls : List (Option AV)} {st : List AV} {σ : Hp} {k : Nat × Nat} : xe_X12_init ct K R (n + 1) 29 ls st σ k = (xk_X12_init ct K R n 31 ls (vi (32) :: st) σ k) := exS_step.trans rfl
theorem ev_X12_init_31 {ct : Nat → Bool} {K : Kt} {R : Option AV → Hp → Prop} {n : Nat} {ls : List (Option AV)} {st : List AV} {σ : Hp} {k : Nat × Nat} : xe_X12_init ct K R (n + 1) 31 ls st σ k = (oI st fun m st => (0 ≤ m ∧ m ≤ 65536) ∧ (k.1 + 1 ≤ 58 ∧ k.2 + m.toNat ≤ 32433) ∧ xk_X12_init ct K R n 33 ls (vr (nx σ) :: st) (mk σ 101 m) (k.1 + 1, k.2 + m.toNat)) := exS_step.trans rfl
theorem ev_X12_init_33 {ct : Nat → Bool} {K : Kt} {R : Option AV → Hp → Prop} {n : Nat} {ls : List (Option AV)} {st : List AV} {σ : Hp} {k : Nat × Nat} : xe_X12_init ct K R (n + 1) 33 ls st σ k = (oR st fun v st => oR st fun x st => kd σ x = 13 ∧ xk_X12_init ct K R n 36 ls st (pR σ 1306 x v) k) := exS_step.trans rfl
theorem ev_X12_init_36 {ct : Nat → Bool} {K : Kt} {R : Option AV → Hp → Prop} {n : Nat} {ls : List (Option AV)} {st : List AV} {σ : Hp} {k : Nat × Nat} : xe_X12_init ct K R (n + 1) 36 ls st σ k = (lR ls 0 fun x => xk_X12_init ct K R n 37 ls (vr x :: st) σ k) := exS_step.trans rfl
theorem ev_X12_init_37 {ct : Nat → Bool} {K : Kt} {R : Option AV → Hp → Prop} {n : Nat} {ls : List (Option AV)} {st : List AV} {σ : Hp} {k : Nat × Nat} : xe_X12_init ct K R (n + 1) 37 ls st σ k = (xk_X12_init ct K R n 39 ls (vi (32) :: st) σ k) := exS_step.trans rfl
theorem ev_X12_init_39 {ct : Nat → Bool} {K : Kt} {R : Option AV → Hp → Prop} {n : Nat} {ls : List (Option AV)} {st : List AV} {σ : Hp} {k : Nat × Nat} : xe_X12_init ct K R (n + 1) 39 ls st σ k = (oI st fun m st => (0 ≤ m ∧ m ≤ 65536) ∧ (k.1 + 1 ≤ 58 ∧ k.2 + m.toNat ≤ 32433) ∧ xk_X12_init ct K R n 41 ls (vr (nx σ) :: st) (mk σ 101 m) (k.1 + 1, k.2 + m.toNat)) := exS_step.trans rfl
theorem ev_X12_init_41 {ct : Nat → Bool} {K : Kt} {R : Option AV → Hp → Prop} {n : Nat} {ls : List (Option AV)} {st : List AV} {σ : Hp} {k : Nat × Nat} : xe_X12_init ct K R (n + 1) 41 ls st σ k = (oR st fun v st => oR st fun x st => kd σ x = 13 ∧ xk_X12_init ct K R n 44 ls st (pR σ 1307 x v) k) := exS_step.trans rfl
theorem ev_X12_init_44 {ct : Nat → Bool} {K : Kt} {R : Option AV → Hp → Prop} {n : Nat} {ls : List (Option AV)} {st : List AV} {σ : Hp} {k : Nat × Nat} : xe_X12_init ct K R (n + 1) 44 ls st σ k = (lR ls 0 fun x => xk_X12_init ct K R n 45 ls (vr x :: st) σ k) := exS_step.trans rfl
theorem ev_X12_init_45 {ct : Nat → Bool} {K : Kt} {R : Option AV → Hp → Prop} {n : Nat} {ls : List (Option AV)} {st : List AV} {σ : Hp} {k : Nat × Nat} : xe_X12_init ct K R (n + 1) 45 ls st σ k = (xk_X12_init ct K R n 47 ls (vi (32) :: st) σ k) := exS_step.trans rfl
theorem ev_X12_init_47 {ct : Nat → Bool} {K : Kt} {R : Option AV → Hp → Prop} {n : Nat} {ls : List (Option AV)} {st : List AV} {σ : Hp} {k : Nat × Nat} : xe_X12_init ct K R (n + 1) 47 ls st σ k = (oI st fun m st => (0 ≤ m ∧ m ≤ 65536) ∧ (k.1 + 1 ≤ 58 ∧ k.2 + m.toNat ≤ 32433) ∧ xk_X12_init ct K R n 49 ls (vr (nx σ) :: st) (mk σ 101 m) (k.1 + 1, k.2 + m.toNat)) := exS_step.trans rfl
theorem ev_X12_init_49 {ct : Nat → Bool} {K : Kt} {R : Option AV → Hp → Prop} {n : Nat} {ls : List (Option AV)} {st : List AV} {σ : Hp} {k : Nat × Nat} : xe_X12_init ct K R (n + 1) 49 ls st σ k = (oR st fun v st => oR st fun x st => kd σ x = 13 ∧ xk_X12_init ct K R n 52 ls st (pR σ 1308 x v) k) := exS_step.trans rfl
theorem ev_X12_init_52 {ct : Nat → Bool} {K : Kt} {R : Option AV → Hp → Prop} {n : Nat} {ls : List (Option AV)} {st : List AV} {σ : Hp} {k : Nat × Nat} : xe_X12_init ct K R (n + 1) 52 ls st σ k = (lR ls 0 fun x => xk_X12_init ct K R n 53 ls (vr x :: st) σ k) := exS_step.trans rfl
theorem ev_X12_init_53 {ct : Nat → Bool} {K : Kt} {R : Option AV → Hp → Prop} {n : Nat} {ls : List (Option AV)} {st : List AV} {σ : Hp} {k : Nat × Nat} : xe_X12_init ct K R (n + 1) 53 ls st σ k = (xk_X12_init ct K R n 55 ls (vi (32) :: st) σ k) := exS_step.trans rfl
theorem ev_X12_init_55 {ct : Nat → Bool} {K : Kt} {R : Option AV → Hp → Prop} {n : Nat} {ls : List (Option AV)} {st : List AV} {σ : Hp} {k : Nat × Nat} : xe_X12_init ct K R (n + 1) 55 ls st σ k = (oI st fun m st => (0 ≤ m ∧ m ≤ 65536) ∧ (k.1 + 1 ≤ 58 ∧ k.2 + m.toNat ≤ 32433) ∧ xk_X12_init ct K R n 57 ls (vr (nx σ) :: st) (mk σ 101 m) (k.1 + 1, k.2 + m.toNat)) := exS_step.trans rfl
theorem ev_X12_init_57 {ct : Nat → Bool} {K : Kt} {R : Option AV → Hp → Prop} {n : Nat} {ls : List (Option AV)} {st : List AV} {σ : Hp} {k : Nat × Nat} : xe_X12_init ct K R (n + 1) 57 ls st σ k = (oR st fun v st => oR st fun x st => kd σ x = 13 ∧ xk_X12_init ct K R n 60 ls st (pR σ 1309 x v) k) := exS_step.trans rfl
theorem ev_X12_init_60 {ct : Nat → Bool} {K : Kt} {R : Option AV → Hp → Prop} {n : Nat} {ls : List (Option AV)} {st : List AV} {σ : Hp} {k : Nat × Nat} : xe_X12_init ct K R (n + 1) 60 ls st σ k = (lR ls 0 fun x => xk_X12_init ct K R n 61 ls (vr x :: st) σ k) := exS_step.trans rfl
theorem ev_X12_init_61 {ct : Nat → Bool} {K : Kt} {R : Option AV → Hp → Prop} {n : Nat} {ls : List (Option AV)} {st : List AV} {σ : Hp} {k : Nat × Nat} : xe_X12_init ct K R (n + 1) 61 ls st σ k = (xk_X12_init ct K R n 63 ls (vi (32) :: st) σ k) := exS_step.trans rfl
theorem ev_X12_init_63 {ct : Nat → Bool} {K : Kt} {R : Option AV → Hp → Prop} {n : Nat} {ls : List (Option AV)} {st : List AV} {σ : Hp} {k : Nat × Nat} : xe_X12_init ct K R (n + 1) 63 ls st σ k = (oI st fun m st => (0 ≤ m ∧ m ≤ 65536) ∧ (k.1 + 1 ≤ 58 ∧ k.2 + m.toNat ≤ 32433) ∧ xk_X12_init ct K R n 65 ls (vr (nx σ) :: st) (mk σ 101 m) (k.1 + 1, k.2 + m.toNat)) := exS_step.trans rfl
theorem ev_X12_init_65 {ct : Nat → Bool} {K : Kt} {R : Option AV → Hp → Prop} {n : Nat} {ls : List (Option AV)} {st : List AV} {σ : Hp} {k : Nat × Nat} : xe_X12_init ct K R (n + 1) 65 ls st σ k = (oR st fun v st => oR st fun x st => kd σ x = 13 ∧ xk_X12_init ct K R n 68 ls st (pR σ 1310 x v) k) := exS_step.trans rfl
theorem ev_X12_init_68 {ct : Nat → Bool} {K : Kt} {R : Option AV → Hp → Prop} {n : Nat} {ls : List (Option AV)} {st : List AV} {σ : Hp} {k : Nat × Nat} : xe_X12_init ct K R (n + 1) 68 ls st σ k = (lR ls 0 fun x => xk_X12_init ct K R n 69 ls (vr x :: st) σ k) := exS_step.trans rfl
theorem ev_X12_init_69 {ct : Nat → Bool} {K : Kt} {R : Option AV → Hp → Prop} {n : Nat} {ls : List (Option AV)} {st : List AV} {σ : Hp} {k : Nat × Nat} : xe_X12_init ct K R (n + 1) 69 ls st σ k = (xk_X12_init ct K R n 71 ls (vi (32) :: st) σ k) := exS_step.trans rfl
theorem ev_X12_init_71 {ct : Nat → Bool} {K : Kt} {R : Option AV → Hp → Prop} {n : Nat} {ls : List (Option AV)} {st : List AV} {σ : Hp} {k : Nat × Nat} : xe_X12_init ct K R (n + 1) 71 ls st σ k = (oI st fun m st => (0 ≤ m ∧ m ≤ 65536) ∧ (k.1 + 1 ≤ 58 ∧ k.2 + m.toNat ≤ 32433) ∧ xk_X12_init ct K R n 73 ls (vr (nx σ) :: st) (mk σ 103 m) (k.1 + 1, k.2 + m.toNat)) := exS_step.trans rfl
theorem ev_X12_init_73 {ct : Nat → Bool} {K : Kt} {R : Option AV → Hp → Prop} {n : Nat} {ls : List (Option AV)} {st : List AV} {σ : Hp} {k : Nat × Nat} : xe_X12_init ct K R (n + 1) 73 ls st σ k = (oR st fun v st => oR st fun x st => kd σ x = 13 ∧ xk_X12_init ct K R n 76 ls st (pR σ 1311 x v) k) := exS_step.trans rfl
theorem ev_X12_init_76 {ct : Nat → Bool} {K : Kt} {R : Option AV → Hp → Prop} {n : Nat} {ls : List (Option AV)} {st : List AV} {σ : Hp} {k : Nat × Nat} : xe_X12_init ct K R (n + 1) 76 ls st σ k = (lR ls 0 fun x => xk_X12_init ct K R n 77 ls (vr x :: st) σ k) := exS_step.trans rfl
theorem ev_X12_init_77 {ct : Nat → Bool} {K : Kt} {R : Option AV → Hp → Prop} {n : Nat} {ls : List (Option AV)} {st : List AV} {σ : Hp} {k : Nat × Nat} : xe_X12_init ct K R (n + 1) 77 ls st σ k = (xk_X12_init ct K R n 80 ls (vi (480) :: st) σ k) := exS_step.trans rfl
theorem ev_X12_init_80 {ct : Nat → Bool} {K : Kt} {R : Option AV → Hp → Prop} {n : Nat} {ls : List (Option AV)} {st : List AV} {σ : Hp} {k : Nat × Nat} : xe_X12_init ct K R (n + 1) 80 ls st σ k = (oI st fun m st => (0 ≤ m ∧ m ≤ 65536) ∧ (k.1 + 1 ≤ 58 ∧ k.2 + m.toNat ≤ 32433) ∧ xk_X12_init ct K R n 82 ls (vr (nx σ) :: st) (mk σ 101 m) (k.1 + 1, k.2 + m.toNat)) := exS_step.trans rfl
theorem ev_X12_init_82 {ct : Nat → Bool} {K : Kt} {R : Option AV → Hp → Prop} {n : Nat} {ls : List (Option AV)} {st : List AV} {σ : Hp} {k : Nat × Nat} : xe_X12_init ct K R (n + 1) 82 ls st σ k = (oR st fun v st => oR st fun x st => kd σ x = 13 ∧ xk_X12_init ct K R n 85 ls st (pR σ 1312 x v) k) := exS_step.trans rfl
theorem ev_X12_init_85 {ct : Nat → Bool} {K : Kt} {R : Option AV → Hp → Prop} {n : Nat} {ls : List (Option AV)} {st : List AV} {σ : Hp} {k : Nat × Nat} : xe_X12_init ct K R (n + 1) 85 ls st σ k = (lR ls 0 fun x => xk_X12_init ct K R n 86 ls (vr x :: st) σ k) := exS_step.trans rfl
theorem ev_X12_init_86 {ct : Nat → Bool} {K : Kt} {R : Option AV → Hp → Prop} {n : Nat} {ls : List (Option AV)} {st : List AV} {σ : Hp} {k : Nat × Nat} : xe_X12_init ct K R (n + 1) 86 ls st σ k = (xk_X12_init ct K R n 88 ls (vi (32) :: st) σ k) := exS_step.trans rfl
theorem ev_X12_init_88 {ct : Nat → Bool} {K : Kt} {R : Option AV → Hp → Prop} {n : Nat} {ls : List (Option AV)} {st : List AV} {σ : Hp} {k : Nat × Nat} : xe_X12_init ct K R (n + 1) 88 ls st σ k = (oI st fun m st => (0 ≤ m ∧ m ≤ 65536) ∧ (k.1 + 1 ≤ 58 ∧ k.2 + m.toNat ≤ 32433) ∧ xk_X12_init ct K R n 90 ls (vr (nx σ) :: st) (mk σ 101 m) (k.1 + 1, k.2 + m.toNat)) := exS_step.trans rfl
theorem ev_X12_init_90 {ct : Nat → Bool} {K : Kt} {R : Option AV → Hp → Prop} {n : Nat} {ls : List (Option AV)} {st : List AV} {σ : Hp} {k : Nat × Nat} : xe_X12_init ct K R (n + 1) 90 ls st σ k = (oR st fun v st => oR st fun x st => kd σ x = 13 ∧ xk_X12_init ct K R n 93 ls st (pR σ 1313 x v) k) := exS_step.trans rfl
theorem ev_X12_init_93 {ct : Nat → Bool} {K : Kt} {R : Option AV → Hp → Prop} {n : Nat} {ls : List (Option AV)} {st : List AV} {σ : Hp} {k : Nat × Nat} : xe_X12_init ct K R (n + 1) 93 ls st σ k = (lR ls 0 fun x => xk_X12_init ct K R n 94 ls (vr x :: st) σ k) := exS_step.trans rfl
theorem ev_X12_init_94 {ct : Nat → Bool} {K : Kt} {R : Option AV → Hp → Prop} {n : Nat} {ls : List (Option AV)} {st : List AV} {σ : Hp} {k : Nat × Nat} : xe_X12_init ct K R (n + 1) 94 ls st σ k = (xk_X12_init ct K R n 96 ls (vi (32) :: st) σ k) := exS_step.trans rfl
theorem ev_X12_init_96 {ct : Nat → Bool} {K : Kt} {R : Option AV → Hp → Prop} {n : Nat} {ls : List (Option AV)} {st : List AV} {σ : Hp} {k : Nat × Nat} : xe_X12_init ct K R (n + 1) 96 ls st σ k = (oI st fun m st => (0 ≤ m ∧ m ≤ 65536) ∧ (k.1 + 1 ≤ 58 ∧ k.2 + m.toNat ≤ 32433) ∧ xk_X12_init ct K R n 98 ls (vr (nx σ) :: st) (mk σ 101 m) (k.1 + 1, k.2 + m.toNat)) := exS_step.trans rfl
theorem ev_X12_init_98 {ct : Nat → Bool} {K : Kt} {R : Option AV → Hp → Prop} {n : Nat} {ls : List (Option AV)} {st : List AV} {σ : Hp} {k : Nat × Nat} : xe_X12_init ct K R (n + 1) 98 ls st σ k = (oR st fun v st => oR st fun x st => kd σ x = 13 ∧ xk_X12_init ct K R n 101 ls st (pR σ 1314 x v) k) := exS_step.trans rfl
theorem ev_X12_init_101 {ct : Nat → Bool} {K : Kt} {R : Option AV → Hp → Prop} {n : Nat} {ls : List (Option AV)} {st : List AV} {σ : Hp} {k : Nat × Nat} : xe_X12_init ct K R (n + 1) 101 ls st σ k = (lR ls 0 fun x => xk_X12_init ct K R n 102 ls (vr x :: st) σ k) := exS_step.trans rfl
theorem ev_X12_init_102 {ct : Nat → Bool} {K : Kt} {R : Option AV → Hp → Prop} {n : Nat} {ls : List (Option AV)} {st : List AV} {σ : Hp} {k : Nat × Nat} : xe_X12_init ct K R (n + 1) 102 ls st σ k = (xk_X12_init ct K R n 103 ls (vi (4) :: st) σ k) := exS_step.trans rfl
theorem ev_X12_init_103 {ct : Nat → Bool} {K : Kt} {R : Option AV → Hp → Prop} {n : Nat} {ls : List (Option AV)} {st : List AV} {σ : Hp} {k : Nat × Nat} : xe_X12_init ct K R (n + 1) 103 ls st σ k = (oI st fun m st => (0 ≤ m ∧ m ≤ 65536) ∧ (k.1 + 1 ≤ 58 ∧ k.2 + m.toNat ≤ 32433) ∧ xk_X12_init ct K R n 105 ls (vr (nx σ) :: st) (mk σ 101 m) (k.1 + 1, k.2 + m.toNat)) := exS_step.trans rfl
theorem ev_X12_init_105 {ct : Nat → Bool} {K : Kt} {R : Option AV → Hp → Prop} {n : Nat} {ls : List (Option AV)} {st : List AV} {σ : Hp} {k : Nat × Nat} : xe_X12_init ct K R (n + 1) 105 ls st σ k = (oR st fun v st => oR st fun x st => kd σ x = 13 ∧ xk_X12_init ct K R n 108 ls st (pR σ 1315 x v) k) := exS_step.trans rfl
theorem ev_X12_init_108 {ct : Nat → Bool} {K : Kt} {R : Option AV → Hp → Prop} {n : Nat} {ls : List (Option AV)} {st : List AV} {σ : Hp} {k : Nat × Nat} : xe_X12_init ct K R (n + 1) 108 ls st σ k = (lR ls 0 fun x => xk_X12_init ct K R n 109 ls (vr x :: st) σ k) := exS_step.trans rfl
theorem ev_X12_init_109 {ct : Nat → Bool} {K : Kt} {R : Option AV → Hp → Prop} {n : Nat} {ls : List (Option AV)} {st : List AV} {σ : Hp} {k : Nat × Nat} : xe_X12_init ct K R (n + 1) 109 ls st σ k = (xk_X12_init ct K R n 111 ls (vi (48) :: st) σ k) := exS_step.trans rfl
theorem ev_X12_init_111 {ct : Nat → Bool} {K : Kt} {R : Option AV → Hp → Prop} {n : Nat} {ls : List (Option AV)} {st : List AV} {σ : Hp} {k : Nat × Nat} : xe_X12_init ct K R (n + 1) 111 ls st σ k = (oI st fun m st => (0 ≤ m ∧ m ≤ 65536) ∧ (k.1 + 1 ≤ 58 ∧ k.2 + m.toNat ≤ 32433) ∧ xk_X12_init ct K R n 113 ls (vr (nx σ) :: st) (mk σ 101 m) (k.1 + 1, k.2 + m.toNat)) := exS_step.trans rfl
theorem ev_X12_init_113 {ct : Nat → Bool} {K : Kt} {R : Option AV → Hp → Prop} {n : Nat} {ls : List (Option AV)} {st : List AV} {σ : Hp} {k : Nat × Nat} : xe_X12_init ct K R (n + 1) 113 ls st σ k = (oR st fun v st => oR st fun x st => kd σ x = 13 ∧ xk_X12_init ct K R n 116 ls st (pR σ 1316 x v) k) := exS_step.trans rfl
theorem ev_X12_init_116 {ct : Nat → Bool} {K : Kt} {R : Option AV → Hp → Prop} {n : Nat} {ls : List (Option AV)} {st : List AV} {σ : Hp} {k : Nat × Nat} : xe_X12_init ct K R (n + 1) 116 ls st σ k = (lR ls 0 fun x => xk_X12_init ct K R n 117 ls (vr x :: st) σ k) := exS_step.trans rfl
theorem ev_X12_init_117 {ct : Nat → Bool} {K : Kt} {R : Option AV → Hp → Prop} {n : Nat} {ls : List (Option AV)} {st : List AV} {σ : Hp} {k : Nat × Nat} : xe_X12_init ct K R (n + 1) 117 ls st σ k = (xk_X12_init ct K R n 119 ls (vi (52) :: st) σ k) := exS_step.trans rfl
theorem ev_X12_init_119 {ct : Nat → Bool} {K : Kt} {R : Option AV → Hp → Prop} {n : Nat} {ls : List (Option AV)} {st : List AV} {σ : Hp} {k : Nat × Nat} : xe_X12_init ct K R (n + 1) 119 ls st σ k = (oI st fun m st => (0 ≤ m ∧ m ≤ 65536) ∧ (k.1 + 1 ≤ 58 ∧ k.2 + m.toNat ≤ 32433) ∧ xk_X12_init ct K R n 121 ls (vr (nx σ) :: st) (mk σ 103 m) (k.1 + 1, k.2 + m.toNat)) := exS_step.trans rfl
theorem ev_X12_init_121 {ct : Nat → Bool} {K : Kt} {R : Option AV → Hp → Prop} {n : Nat} {ls : List (Option AV)} {st : List AV} {σ : Hp} {k : Nat × Nat} : xe_X12_init ct K R (n + 1) 121 ls st σ k = (oR st fun v st => oR st fun x st => kd σ x = 13 ∧ xk_X12_init ct K R n 124 ls st (pR σ 1317 x v) k) := exS_step.trans rfl
theorem ev_X12_init_124 {ct : Nat → Bool} {K : Kt} {R : Option AV → Hp → Prop} {n : Nat} {ls : List (Option AV)} {st : List AV} {σ : Hp} {k : Nat × Nat} : xe_X12_init ct K R (n + 1) 124 ls st σ k = (lR ls 0 fun x => xk_X12_init ct K R n 125 ls (vr x :: st) σ k) := exS_step.trans rfl
theorem ev_X12_init_125 {ct : Nat → Bool} {K : Kt} {R : Option AV → Hp → Prop} {n : Nat} {ls : List (Option AV)} {st : List AV} {σ : Hp} {k : Nat × Nat} : xe_X12_init ct K R (n + 1) 125 ls st σ k = (xk_X12_init ct K R n 126 ls (vi (4) :: st) σ k) := exS_step.trans rfl
theorem ev_X12_init_126 {ct : Nat → Bool} {K : Kt} {R : Option AV → Hp → Prop} {n : Nat} {ls : List (Option AV)} {st : List AV} {σ : Hp} {k : Nat × Nat} : xe_X12_init ct K R (n + 1) 126 ls st σ k = (oI st fun m st => (0 ≤ m ∧ m ≤ 65536) ∧ (k.1 + 1 ≤ 58 ∧ k.2 + m.toNat ≤ 32433) ∧ xk_X12_init ct K R n 128 ls (vr (nx σ) :: st) (mk σ 101 m) (k.1 + 1, k.2 + m.toNat)) := exS_step.trans rfl
theorem ev_X12_init_128 {ct : Nat → Bool} {K : Kt} {R : Option AV → Hp → Prop} {n : Nat} {ls : List (Option AV)} {st : List AV} {σ : Hp} {k : Nat × Nat} : xe_X12_init ct K R (n + 1) 128 ls st σ k = (oR st fun v st => oR st fun x st => kd σ x = 13 ∧ xk_X12_init ct K R n 131 ls st (pR σ 1318 x v) k) := exS_step.trans rfl
theorem ev_X12_init_131 {ct : Nat → Bool} {K : Kt} {R : Option AV → Hp → Prop} {n : Nat} {ls : List (Option AV)} {st : List AV} {σ : Hp} {k : Nat × Nat} : xe_X12_init ct K R (n + 1) 131 ls st σ k = (lR ls 0 fun x => xk_X12_init ct K R n 132 ls (vr x :: st) σ k) := exS_step.trans rfl
theorem ev_X12_init_132 {ct : Nat → Bool} {K : Kt} {R : Option AV → Hp → Prop} {n : Nat} {ls : List (Option AV)} {st : List AV} {σ : Hp} {k : Nat × Nat} : xe_X12_init ct K R (n + 1) 132 ls st σ k = (xk_X12_init ct K R n 133 ls (vi (4) :: st) σ k) := exS_step.trans rfl
theorem ev_X12_init_133 {ct : Nat → Bool} {K : Kt} {R : Option AV → Hp → Prop} {n : Nat} {ls : List (Option AV)} {st : List AV} {σ : Hp} {k : Nat × Nat} : xe_X12_init ct K R (n + 1) 133 ls st σ k = (oI st fun m st => (0 ≤ m ∧ m ≤ 65536) ∧ (k.1 + 1 ≤ 58 ∧ k.2 + m.toNat ≤ 32433) ∧ xk_X12_init ct K R n 135 ls (vr (nx σ) :: st) (mk σ 101 m) (k.1 + 1, k.2 + m.toNat)) := exS_step.trans rfl
theorem ev_X12_init_135 {ct : Nat → Bool} {K : Kt} {R : Option AV → Hp → Prop} {n : Nat} {ls : List (Option AV)} {st : List AV} {σ : Hp} {k : Nat × Nat} : xe_X12_init ct K R (n + 1) 135 ls st σ k = (oR st fun v st => oR st fun x st => kd σ x = 13 ∧ xk_X12_init ct K R n 138 ls st (pR σ 1319 x v) k) := exS_step.trans rfl
theorem ev_X12_init_138 {ct : Nat → Bool} {K : Kt} {R : Option AV → Hp → Prop} {n : Nat} {ls : List (Option AV)} {st : List AV} {σ : Hp} {k : Nat × Nat} : xe_X12_init ct K R (n + 1) 138 ls st σ k = (lR ls 0 fun x => xk_X12_init ct K R n 139 ls (vr x :: st) σ k) := exS_step.trans rfl
theorem ev_X12_init_139 {ct : Nat → Bool} {K : Kt} {R : Option AV → Hp → Prop} {n : Nat} {ls : List (Option AV)} {st : List AV} {σ : Hp} {k : Nat × Nat} : xe_X12_init ct K R (n + 1) 139 ls st σ k = (xk_X12_init ct K R n 142 ls (vi (2000) :: st) σ k) := exS_step.trans rfl
theorem ev_X12_init_142 {ct : Nat → Bool} {K : Kt} {R : Option AV → Hp → Prop} {n : Nat} {ls : List (Option AV)} {st : List AV} {σ : Hp} {k : Nat × Nat} : xe_X12_init ct K R (n + 1) 142 ls st σ k = (oI st fun m st => (0 ≤ m ∧ m ≤ 65536) ∧ (k.1 + 1 ≤ 58 ∧ k.2 + m.toNat ≤ 32433) ∧ xk_X12_init ct K R n 144 ls (vr (nx σ) :: st) (mk σ 101 m) (k.1 + 1, k.2 + m.toNat)) := exS_step.trans rfl
theorem ev_X12_init_144 {ct : Nat → Bool} {K : Kt} {R : Option AV → Hp → Prop} {n : Nat} {ls : List (Option AV)} {st : List AV} {σ : Hp} {k : Nat × Nat} : xe_X12_init ct K R (n + 1) 144 ls st σ k = (oR st fun v st => oR st fun x st => kd σ x = 13 ∧ xk_X12_init ct K R n 147 ls st (pR σ 1320 x v) k) := exS_step.trans rfl
theorem ev_X12_init_147 {ct : Nat → Bool} {K : Kt} {R : Option AV → Hp → Prop} {n : Nat} {ls : List (Option AV)} {st : List AV} {σ : Hp} {k : Nat × Nat} : xe_X12_init ct K R (n + 1) 147 ls st σ k = (lR ls 0 fun x => xk_X12_init ct K R n 148 ls (vr x :: st) σ k) := exS_step.trans rfl
theorem ev_X12_init_148 {ct : Nat → Bool} {K : Kt} {R : Option AV → Hp → Prop} {n : Nat} {ls : List (Option AV)} {st : List AV} {σ : Hp} {k : Nat × Nat} : xe_X12_init ct K R (n + 1) 148 ls st σ k = (xk_X12_init ct K R n 151 ls (vi (600) :: st) σ k) := exS_step.trans rfl
theorem ev_X12_init_151 {ct : Nat → Bool} {K : Kt} {R : Option AV → Hp → Prop} {n : Nat} {ls : List (Option AV)} {st : List AV} {σ : Hp} {k : Nat × Nat} : xe_X12_init ct K R (n + 1) 151 ls st σ k = (oI st fun m st => (0 ≤ m ∧ m ≤ 65536) ∧ (k.1 + 1 ≤ 58 ∧ k.2 + m.toNat ≤ 32433) ∧ xk_X12_init ct K R n 153 ls (vr (nx σ) :: st) (mk σ 101 m) (k.1 + 1, k.2 + m.toNat)) := exS_step.trans rfl
theorem ev_X12_init_153 {ct : Nat → Bool} {K : Kt} {R : Option AV → Hp → Prop} {n : Nat} {ls : List (Option AV)} {st : List AV} {σ : Hp} {k : Nat × Nat} : xe_X12_init ct K R (n + 1) 153 ls st σ k = (oR st fun v st => oR st fun x st => kd σ x = 13 ∧ xk_X12_init ct K R n 156 ls st (pR σ 1324 x v) k) := exS_step.trans rfl
theorem ev_X12_init_156 {ct : Nat → Bool} {K : Kt} {R : Option AV → Hp → Prop} {n : Nat} {ls : List (Option AV)} {st : List AV} {σ : Hp} {k : Nat × Nat} : xe_X12_init ct K R (n + 1) 156 ls st σ k = (lR ls 0 fun x => xk_X12_init ct K R n 157 ls (vr x :: st) σ k) := exS_step.trans rfl
theorem ev_X12_init_157 {ct : Nat → Bool} {K : Kt} {R : Option AV → Hp → Prop} {n : Nat} {ls : List (Option AV)} {st : List AV} {σ : Hp} {k : Nat × Nat} : xe_X12_init ct K R (n + 1) 157 ls st σ k = (xk_X12_init ct K R n 160 ls (vi (600) :: st) σ k) := exS_step.trans rfl
theorem ev_X12_init_160 {ct : Nat → Bool} {K : Kt} {R : Option AV → Hp → Prop} {n : Nat} {ls : List (Option AV)} {st : List AV} {σ : Hp} {k : Nat × Nat} : xe_X12_init ct K R (n + 1) 160 ls st σ k = (oI st fun m st => (0 ≤ m ∧ m ≤ 65536) ∧ (k.1 + 1 ≤ 58 ∧ k.2 + m.toNat ≤ 32433) ∧ xk_X12_init ct K R n 162 ls (vr (nx σ) :: st) (mk σ 101 m) (k.1 + 1, k.2 + m.toNat)) := exS_step.trans rfl
theorem ev_X12_init_162 {ct : Nat → Bool} {K : Kt} {R : Option AV → Hp → Prop} {n : Nat} {ls : List (Option AV)} {st : List AV} {σ : Hp} {k : Nat × Nat} : xe_X12_init ct K R (n + 1) 162 ls st σ k = (oR st fun v st => oR st fun x st => kd σ x = 13 ∧ xk_X12_init ct K R n 165 ls st (pR σ 1325 x v) k) := exS_step.trans rfl
theorem ev_X12_init_165 {ct : Nat → Bool} {K : Kt} {R : Option AV → Hp → Prop} {n : Nat} {ls : List (Option AV)} {st : List AV} {σ : Hp} {k : Nat × Nat} : xe_X12_init ct K R (n + 1) 165 ls st σ k = (lR ls 0 fun x => xk_X12_init ct K R n 166 ls (vr x :: st) σ k) := exS_step.trans rfl
theorem ev_X12_init_166 {ct : Nat → Bool} {K : Kt} {R : Option AV → Hp → Prop} {n : Nat} {ls : List (Option AV)} {st : List AV} {σ : Hp} {k : Nat × Nat} : xe_X12_init ct K R (n + 1) 166 ls st σ k = (xk_X12_init ct K R n 169 ls (vi (3600) :: st) σ k) := exS_step.trans rfl
theorem ev_X12_init_169 {ct : Nat → Bool} {K : Kt} {R : Option AV → Hp → Prop} {n : Nat} {ls : List (Option AV)} {st : List AV} {σ : Hp} {k : Nat × Nat} : xe_X12_init ct K R (n + 1) 169 ls st σ k = (oI st fun m st => (0 ≤ m ∧ m ≤ 65536) ∧ (k.1 + 1 ≤ 58 ∧ k.2 + m.toNat ≤ 32433) ∧ xk_X12_init ct K R n 171 ls (vr (nx σ) :: st) (mk σ 103 m) (k.1 + 1, k.2 + m.toNat)) := exS_step.trans rfl
theorem ev_X12_init_171 {ct : Nat → Bool} {K : Kt} {R : Option AV → Hp → Prop} {n : Nat} {ls : List (Option AV)} {st : List AV} {σ : Hp} {k : Nat × Nat} : xe_X12_init ct K R (n + 1) 171 ls st σ k = (oR st fun v st => oR st fun x st => kd σ x = 13 ∧ xk_X12_init ct K R n 174 ls st (pR σ 1326 x v) k) := exS_step.trans rfl
theorem ev_X12_init_174 {ct : Nat → Bool} {K : Kt} {R : Option AV → Hp → Prop} {n : Nat} {ls : List (Option AV)} {st : List AV} {σ : Hp} {k : Nat × Nat} : xe_X12_init ct K R (n + 1) 174 ls st σ k = (lR ls 0 fun x => xk_X12_init ct K R n 175 ls (vr x :: st) σ k) := exS_step.trans rfl
theorem ev_X12_init_175 {ct : Nat → Bool} {K : Kt} {R : Option AV → Hp → Prop} {n : Nat} {ls : List (Option AV)} {st : List AV} {σ : Hp} {k : Nat × Nat} : xe_X12_init ct K R (n + 1) 175 ls st σ k = (xk_X12_init ct K R n 178 ls (vi (18000) :: st) σ k) := exS_step.trans rfl
theorem ev_X12_init_178 {ct : Nat → Bool} {K : Kt} {R : Option AV → Hp → Prop} {n : Nat} {ls : List (Option AV)} {st : List AV} {σ : Hp} {k : Nat × Nat} : xe_X12_init ct K R (n + 1) 178 ls st σ k = (oI st fun m st => (0 ≤ m ∧ m ≤ 65536) ∧ (k.1 + 1 ≤ 58 ∧ k.2 + m.toNat ≤ 32433) ∧ xk_X12_init ct K R n 180 ls (vr (nx σ) :: st) (mk σ 102 m) (k.1 + 1, k.2 + m.toNat)) := exS_step.trans rfl
theorem ev_X12_init_180 {ct : Nat → Bool} {K : Kt} {R : Option AV → Hp → Prop} {n : Nat} {ls : List (Option AV)} {st : List AV} {σ : Hp} {k : Nat × Nat} : xe_X12_init ct K R (n + 1) 180 ls st σ k = (oR st fun v st => oR st fun x st => kd σ x = 13 ∧ xk_X12_init ct K R n 183 ls st (pR σ 1327 x v) k) := exS_step.trans rfl
theorem ev_X12_init_183 {ct : Nat → Bool} {K : Kt} {R : Option AV → Hp → Prop} {n : Nat} {ls : List (Option AV)} {st : List AV} {σ : Hp} {k : Nat × Nat} : xe_X12_init ct K R (n + 1) 183 ls st σ k = (lR ls 0 fun x => xk_X12_init ct K R n 184 ls (vr x :: st) σ k) := exS_step.trans rfl
theorem ev_X12_init_184 {ct : Nat → Bool} {K : Kt} {R : Option AV → Hp → Prop} {n : Nat} {ls : List (Option AV)} {st : List AV} {σ : Hp} {k : Nat × Nat} : xe_X12_init ct K R (n + 1) 184 ls st σ k = (xk_X12_init ct K R n 185 ls (vi (5) :: st) σ k) := exS_step.trans rfl
theorem ev_X12_init_185 {ct : Nat → Bool} {K : Kt} {R : Option AV → Hp → Prop} {n : Nat} {ls : List (Option AV)} {st : List AV} {σ : Hp} {k : Nat × Nat} : xe_X12_init ct K R (n + 1) 185 ls st σ k = (oI st fun m st => (0 ≤ m ∧ m ≤ 65536) ∧ (k.1 + 1 ≤ 58 ∧ k.2 + m.toNat ≤ 32433) ∧ xk_X12_init ct K R n 187 ls (vr (nx σ) :: st) (mk σ 102 m) (k.1 + 1, k.2 + m.toNat)) := exS_step.trans rfl
theorem ev_X12_init_187 {ct : Nat → Bool} {K : Kt} {R : Option AV → Hp → Prop} {n : Nat} {ls : List (Option AV)} {st : List AV} {σ : Hp} {k : Nat × Nat} : xe_X12_init ct K R (n + 1) 187 ls st σ k = (oR st fun v st => oR st fun x st => kd σ x = 13 ∧ xk_X12_init ct K R n 190 ls st (pR σ 1328 x v) k) := exS_step.trans rfl
theorem ev_X12_init_190 {ct : Nat → Bool} {K : Kt} {R : Option AV → Hp → Prop} {n : Nat} {ls : List (Option AV)} {st : List AV} {σ : Hp} {k : Nat × Nat} : xe_X12_init ct K R (n + 1) 190 ls st σ k = (lR ls 0 fun x => xk_X12_init ct K R n 191 ls (vr x :: st) σ k) := exS_step.trans rfl
theorem ev_X12_init_191 {ct : Nat → Bool} {K : Kt} {R : Option AV → Hp → Prop} {n : Nat} {ls : List (Option AV)} {st : List AV} {σ : Hp} {k : Nat × Nat} : xe_X12_init ct K R (n + 1) 191 ls st σ k = (xk_X12_init ct K R n 193 ls (vi (12) :: st) σ k) := exS_step.trans rfl
theorem ev_X12_init_193 {ct : Nat → Bool} {K : Kt} {R : Option AV → Hp → Prop} {n : Nat} {ls : List (Option AV)} {st : List AV} {σ : Hp} {k : Nat × Nat} : xe_X12_init ct K R (n + 1) 193 ls st σ k = (oI st fun m st => (0 ≤ m ∧ m ≤ 65536) ∧ (k.1 + 1 ≤ 58 ∧ k.2 + m.toNat ≤ 32433) ∧ xk_X12_init ct K R n 195 ls (vr (nx σ) :: st) (mk σ 101 m) (k.1 + 1, k.2 + m.toNat)) := exS_step.trans rfl
theorem ev_X12_init_195 {ct : Nat → Bool} {K : Kt} {R : Option AV → Hp → Prop} {n : Nat} {ls : List (Option AV)} {st : List AV} {σ : Hp} {k : Nat × Nat} : xe_X12_init ct K R (n + 1) 195 ls st σ k = (oR st fun v st => oR st fun x st => kd σ x = 13 ∧ xk_X12_init ct K R n 198 ls st (pR σ 1333 x v) k) := exS_step.trans rfl
theorem ev_X12_init_198 {ct : Nat → Bool} {K : Kt} {R : Option AV → Hp → Prop} {n : Nat} {ls : List (Option AV)} {st : List AV} {σ : Hp} {k : Nat × Nat} : xe_X12_init ct K R (n + 1) 198 ls st σ k = (lR ls 0 fun x => xk_X12_init ct K R n 199 ls (vr x :: st) σ k) := exS_step.trans rfl
theorem ev_X12_init_199 {ct : Nat → Bool} {K : Kt} {R : Option AV → Hp → Prop} {n : Nat} {ls : List (Option AV)} {st : List AV} {σ : Hp} {k : Nat × Nat} : xe_X12_init ct K R (n + 1) 199 ls st σ k = (xk_X12_init ct K R n 201 ls (vi (12) :: st) σ k) := exS_step.trans rfl
theorem ev_X12_init_201 {ct : Nat → Bool} {K : Kt} {R : Option AV → Hp → Prop} {n : Nat} {ls : List (Option AV)} {st : List AV} {σ : Hp} {k : Nat × Nat} : xe_X12_init ct K R (n + 1) 201 ls st σ k = (oI st fun m st => (0 ≤ m ∧ m ≤ 65536) ∧ (k.1 + 1 ≤ 58 ∧ k.2 + m.toNat ≤ 32433) ∧ xk_X12_init ct K R n 203 ls (vr (nx σ) :: st) (mk σ 101 m) (k.1 + 1, k.2 + m.toNat)) := exS_step.trans rfl
theorem ev_X12_init_203 {ct : Nat → Bool} {K : Kt} {R : Option AV → Hp → Prop} {n : Nat} {ls : List (Option AV)} {st : List AV} {σ : Hp} {k : Nat × Nat} : xe_X12_init ct K R (n + 1) 203 ls st σ k = (oR st fun v st => oR st fun x st => kd σ x = 13 ∧ xk_X12_init ct K R n 206 ls st (pR σ 1334 x v) k) := exS_step.trans rfl
theorem ev_X12_init_206 {ct : Nat → Bool} {K : Kt} {R : Option AV → Hp → Prop} {n : Nat} {ls : List (Option AV)} {st : List AV} {σ : Hp} {k : Nat × Nat} : xe_X12_init ct K R (n + 1) 206 ls st σ k = (lR ls 0 fun x => xk_X12_init ct K R n 207 ls (vr x :: st) σ k) := exS_step.trans rfl
theorem ev_X12_init_207 {ct : Nat → Bool} {K : Kt} {R : Option AV → Hp → Prop} {n : Nat} {ls : List (Option AV)} {st : List AV} {σ : Hp} {k : Nat × Nat} : xe_X12_init ct K R (n + 1) 207 ls st σ k = (xk_X12_init ct K R n 209 ls (vi (20) :: st) σ k) := exS_step.trans rfl
theorem ev_X12_init_209 {ct : Nat → Bool} {K : Kt} {R : Option AV → Hp → Prop} {n : Nat} {ls : List (Option AV)} {st : List AV} {σ : Hp} {k : Nat × Nat} : xe_X12_init ct K R (n + 1) 209 ls st σ k = (oI st fun m st => (0 ≤ m ∧ m ≤ 65536) ∧ (k.1 + 1 ≤ 58 ∧ k.2 + m.toNat ≤ 32433) ∧ xk_X12_init ct K R n 211 ls (vr (nx σ) :: st) (mk σ 101 m) (k.1 + 1, k.2 + m.toNat)) := exS_step.trans rfl
theorem ev_X12_init_211 {ct : Nat → Bool} {K : Kt} {R : Option AV → Hp → Prop} {n : Nat} {ls : List (Option AV)} {st : List AV} {σ : Hp} {k : Nat × Nat} : xe_X12_init ct K R (n + 1) 211 ls st σ k = (oR st fun v st => oR st fun x st => kd σ x = 13 ∧ xk_X12_init ct K R n 214 ls st (pR σ 1336 x v) k) := exS_step.trans rfl
theorem ev_X12_init_214 {ct : Nat → Bool} {K : Kt} {R : Option AV → Hp → Prop} {n : Nat} {ls : List (Option AV)} {st : List AV} {σ : Hp} {k : Nat × Nat} : xe_X12_init ct K R (n + 1) 214 ls st σ k = (lR ls 0 fun x => xk_X12_init ct K R n 215 ls (vr x :: st) σ k) := exS_step.trans rfl
theorem ev_X12_init_215 {ct : Nat → Bool} {K : Kt} {R : Option AV → Hp → Prop} {n : Nat} {ls : List (Option AV)} {st : List AV} {σ : Hp} {k : Nat × Nat} : xe_X12_init ct K R (n + 1) 215 ls st σ k = (xk_X12_init ct K R n 217 ls (vi (20) :: st) σ k) := exS_step.trans rfl
theorem ev_X12_init_217 {ct : Nat → Bool} {K : Kt} {R : Option AV → Hp → Prop} {n : Nat} {ls : List (Option AV)} {st : List AV} {σ : Hp} {k : Nat × Nat} : xe_X12_init ct K R (n + 1) 217 ls st σ k = (oI st fun m st => (0 ≤ m ∧ m ≤ 65536) ∧ (k.1 + 1 ≤ 58 ∧ k.2 + m.toNat ≤ 32433) ∧ xk_X12_init ct K R n 219 ls (vr (nx σ) :: st) (mk σ 101 m) (k.1 + 1, k.2 + m.toNat)) := exS_step.trans rfl
theorem ev_X12_init_219 {ct : Nat → Bool} {K : Kt} {R : Option AV → Hp → Prop} {n : Nat} {ls : List (Option AV)} {st : List AV} {σ : Hp} {k : Nat × Nat} : xe_X12_init ct K R (n + 1) 219 ls st σ k = (oR st fun v st => oR st fun x st => kd σ x = 13 ∧ xk_X12_init ct K R n 222 ls st (pR σ 1337 x v) k) := exS_step.trans rfl
theorem ev_X12_init_222 {ct : Nat → Bool} {K : Kt} {R : Option AV → Hp → Prop} {n : Nat} {ls : List (Option AV)} {st : List AV} {σ : Hp} {k : Nat × Nat} : xe_X12_init ct K R (n + 1) 222 ls st σ k = (lR ls 0 fun x => xk_X12_init ct K R n 223 ls (vr x :: st) σ k) := exS_step.trans rfl
theorem ev_X12_init_223 {ct : Nat → Bool} {K : Kt} {R : Option AV → Hp → Prop} {n : Nat} {ls : List (Option AV)} {st : List AV} {σ : Hp} {k : Nat × Nat} : xe_X12_init ct K R (n + 1) 223 ls st σ k = (xk_X12_init ct K R n 225 ls (vi (20) :: st) σ k) := exS_step.trans rfl
theorem ev_X12_init_225 {ct : Nat → Bool} {K : Kt} {R : Option AV → Hp → Prop} {n : Nat} {ls : List (Option AV)} {st : List AV} {σ : Hp} {k : Nat × Nat} : xe_X12_init ct K R (n + 1) 225 ls st σ k = (oI st fun m st => (0 ≤ m ∧ m ≤ 65536) ∧ (k.1 + 1 ≤ 58 ∧ k.2 + m.toNat ≤ 32433) ∧ xk_X12_init ct K R n 227 ls (vr (nx σ) :: st) (mk σ 101 m) (k.1 + 1, k.2 + m.toNat)) := exS_step.trans rfl
theorem ev_X12_init_227 {ct : Nat → Bool} {K : Kt} {R : Option AV → Hp → Prop} {n : Nat} {ls : List (Option AV)} {st : List AV} {σ : Hp} {k : Nat × Nat} : xe_X12_init ct K R (n + 1) 227 ls st σ k = (oR st fun v st => oR st fun x st => kd σ x = 13 ∧ xk_X12_init ct K R n 230 ls st (pR σ 1338 x v) k) := exS_step.trans rfl
theorem ev_X12_init_230 {ct : Nat → Bool} {K : Kt} {R : Option AV → Hp → Prop} {n : Nat} {ls : List (Option AV)} {st : List AV} {σ : Hp} {k : Nat × Nat} : xe_X12_init ct K R (n + 1) 230 ls st σ k = (lR ls 0 fun x => xk_X12_init ct K R n 231 ls (vr x :: st) σ k) := exS_step.trans rfl
theorem ev_X12_init_231 {ct : Nat → Bool} {K : Kt} {R : Option AV → Hp → Prop} {n : Nat} {ls : List (Option AV)} {st : List AV} {σ : Hp} {k : Nat × Nat} : xe_X12_init ct K R (n + 1) 231 ls st σ k = (xk_X12_init ct K R n 233 ls (vi (20) :: st) σ k) := exS_step.trans rfl
theorem ev_X12_init_233 {ct : Nat → Bool} {K : Kt} {R : Option AV → Hp → Prop} {n : Nat} {ls : List (Option AV)} {st : List AV} {σ : Hp} {k : Nat × Nat} : xe_X12_init ct K R (n + 1) 233 ls st σ k = (oI st fun m st => (0 ≤ m ∧ m ≤ 65536) ∧ (k.1 + 1 ≤ 58 ∧ k.2 + m.toNat ≤ 32433) ∧ xk_X12_init ct K R n 235 ls (vr (nx σ) :: st) (mk σ 101 m) (k.1 + 1, k.2 + m.toNat)) := exS_step.trans rfl
theorem ev_X12_init_235 {ct : Nat → Bool} {K : Kt} {R : Option AV → Hp → Prop} {n : Nat} {ls : List (Option AV)} {st : List AV} {σ : Hp} {k : Nat × Nat} : xe_X12_init ct K R (n + 1) 235 ls st σ k = (oR st fun v st => oR st fun x st => kd σ x = 13 ∧ xk_X12_init ct K R n 238 ls st (pR σ 1339 x v) k) := exS_step.trans rfl
theorem ev_X12_init_238 {ct : Nat → Bool} {K : Kt} {R : Option AV → Hp → Prop} {n : Nat} {ls : List (Option AV)} {st : List AV} {σ : Hp} {k : Nat × Nat} : xe_X12_init ct K R (n + 1) 238 ls st σ k = (lR ls 0 fun x => xk_X12_init ct K R n 239 ls (vr x :: st) σ k) := exS_step.trans rfl
theorem ev_X12_init_239 {ct : Nat → Bool} {K : Kt} {R : Option AV → Hp → Prop} {n : Nat} {ls : List (Option AV)} {st : List AV} {σ : Hp} {k : Nat × Nat} : xe_X12_init ct K R (n + 1) 239 ls st σ k = (xk_X12_init ct K R n 241 ls (vi (20) :: st) σ k) := exS_step.trans rfl
theorem ev_X12_init_241 {ct : Nat → Bool} {K : Kt} {R : Option AV → Hp → Prop} {n : Nat} {ls : List (Option AV)} {st : List AV} {σ : Hp} {k : Nat × Nat} : xe_X12_init ct K R (n + 1) 241 ls st σ k = (oI st fun m st => (0 ≤ m ∧ m ≤ 65536) ∧ (k.1 + 1 ≤ 58 ∧ k.2 + m.toNat ≤ 32433) ∧ xk_X12_init ct K R n 243 ls (vr (nx σ) :: st) (mk σ 101 m) (k.1 + 1, k.2 + m.toNat)) := exS_step.trans rfl
theorem ev_X12_init_243 {ct : Nat → Bool} {K : Kt} {R : Option AV → Hp → Prop} {n : Nat} {ls : List (Option AV)} {st : List AV} {σ : Hp} {k : Nat × Nat} : xe_X12_init ct K R (n + 1) 243 ls st σ k = (oR st fun v st => oR st fun x st => kd σ x = 13 ∧ xk_X12_init ct K R n 246 ls st (pR σ 1340 x v) k) := exS_step.trans rfl
theorem ev_X12_init_246 {ct : Nat → Bool} {K : Kt} {R : Option AV → Hp → Prop} {n : Nat} {ls : List (Option AV)} {st : List AV} {σ : Hp} {k : Nat × Nat} : xe_X12_init ct K R (n + 1) 246 ls st σ k = (lR ls 0 fun x => xk_X12_init ct K R n 247 ls (vr x :: st) σ k) := exS_step.trans rfl
theorem ev_X12_init_247 {ct : Nat → Bool} {K : Kt} {R : Option AV → Hp → Prop} {n : Nat} {ls : List (Option AV)} {st : List AV} {σ : Hp} {k : Nat × Nat} : xe_X12_init ct K R (n + 1) 247 ls st σ k = (xk_X12_init ct K R n 250 ls (vi (1000) :: st) σ k) := exS_step.trans rfl
theorem ev_X12_init_250 {ct : Nat → Bool} {K : Kt} {R : Option AV → Hp → Prop} {n : Nat} {ls : List (Option AV)} {st : List AV} {σ : Hp} {k : Nat × Nat} : xe_X12_init ct K R (n + 1) 250 ls st σ k = (oI st fun m st => (0 ≤ m ∧ m ≤ 65536) ∧ (k.1 + 1 ≤ 58 ∧ k.2 + m.toNat ≤ 32433) ∧ xk_X12_init ct K R n 252 ls (vr (nx σ) :: st) (mk σ 101 m) (k.1 + 1, k.2 + m.toNat)) := exS_step.trans rfl
theorem ev_X12_init_252 {ct : Nat → Bool} {K : Kt} {R : Option AV → Hp → Prop} {n : Nat} {ls : List (Option AV)} {st : List AV} {σ : Hp} {k : Nat × Nat} : xe_X12_init ct K R (n + 1) 252 ls st σ k = (oR st fun v st => oR st fun x st => kd σ x = 13 ∧ xk_X12_init ct K R n 255 ls st (pR σ 1344 x v) k) := exS_step.trans rfl
theorem ev_X12_init_255 {ct : Nat → Bool} {K : Kt} {R : Option AV → Hp → Prop} {n : Nat} {ls : List (Option AV)} {st : List AV} {σ : Hp} {k : Nat × Nat} : xe_X12_init ct K R (n + 1) 255 ls st σ k = (lR ls 0 fun x => xk_X12_init ct K R n 256 ls (vr x :: st) σ k) := exS_step.trans rfl
theorem ev_X12_init_256 {ct : Nat → Bool} {K : Kt} {R : Option AV → Hp → Prop} {n : Nat} {ls : List (Option AV)} {st : List AV} {σ : Hp} {k : Nat × Nat} : xe_X12_init ct K R (n + 1) 256 ls st σ k = (xk_X12_init ct K R n 258 ls (vi (48) :: st) σ k) := exS_step.trans rfl
theorem ev_X12_init_258 {ct : Nat → Bool} {K : Kt} {R : Option AV → Hp → Prop} {n : Nat} {ls : List (Option AV)} {st : List AV} {σ : Hp} {k : Nat × Nat} : xe_X12_init ct K R (n + 1) 258 ls st σ k = (oI st fun m st => (0 ≤ m ∧ m ≤ 65536) ∧ (k.1 + 1 ≤ 58 ∧ k.2 + m.toNat ≤ 32433) ∧ xk_X12_init ct K R n 260 ls (vr (nx σ) :: st) (mk σ 101 m) (k.1 + 1, k.2 + m.toNat)) := exS_step.trans rfl
theorem ev_X12_init_260 {ct : Nat → Bool} {K : Kt} {R : Option AV → Hp → Prop} {n : Nat} {ls : List (Option AV)} {st : List AV} {σ : Hp} {k : Nat × Nat} : xe_X12_init ct K R (n + 1) 260 ls st σ k = (oR st fun v st => oR st fun x st => kd σ x = 13 ∧ xk_X12_init ct K R n 263 ls st (pR σ 1354 x v) k) := exS_step.trans rfl
theorem ev_X12_init_263 {ct : Nat → Bool} {K : Kt} {R : Option AV → Hp → Prop} {n : Nat} {ls : List (Option AV)} {st : List AV} {σ : Hp} {k : Nat × Nat} : xe_X12_init ct K R (n + 1) 263 ls st σ k = (lR ls 0 fun x => xk_X12_init ct K R n 264 ls (vr x :: st) σ k) := exS_step.trans rfl
theorem ev_X12_init_264 {ct : Nat → Bool} {K : Kt} {R : Option AV → Hp → Prop} {n : Nat} {ls : List (Option AV)} {st : List AV} {σ : Hp} {k : Nat × Nat} : xe_X12_init ct K R (n + 1) 264 ls st σ k = (xk_X12_init ct K R n 266 ls (vi (48) :: st) σ k) := exS_step.trans rfl
theorem ev_X12_init_266 {ct : Nat → Bool} {K : Kt} {R : Option AV → Hp → Prop} {n : Nat} {ls : List (Option AV)} {st : List AV} {σ : Hp} {k : Nat × Nat} : xe_X12_init ct K R (n + 1) 266 ls st σ k = (oI st fun m st => (0 ≤ m ∧ m ≤ 65536) ∧ (k.1 + 1 ≤ 58 ∧ k.2 + m.toNat ≤ 32433) ∧ xk_X12_init ct K R n 268 ls (vr (nx σ) :: st) (mk σ 101 m) (k.1 + 1, k.2 + m.toNat)) := exS_step.trans rfl
theorem ev_X12_init_268 {ct : Nat → Bool} {K : Kt} {R : Option AV → Hp → Prop} {n : Nat} {ls : List (Option AV)} {st : List AV} {σ : Hp} {k : Nat × Nat} : xe_X12_init ct K R (n + 1) 268 ls st σ k = (oR st fun v st => oR st fun x st => kd σ x = 13 ∧ xk_X12_init ct K R n 271 ls st (pR σ 1355 x v) k) := exS_step.trans rfl
theorem ev_X12_init_271 {ct : Nat → Bool} {K : Kt} {R : Option AV → Hp → Prop} {n : Nat} {ls : List (Option AV)} {st : List AV} {σ : Hp} {k : Nat × Nat} : xe_X12_init ct K R (n + 1) 271 ls st σ k = (lR ls 0 fun x => xk_X12_init ct K R n 272 ls (vr x :: st) σ k) := exS_step.trans rfl
theorem ev_X12_init_272 {ct : Nat → Bool} {K : Kt} {R : Option AV → Hp → Prop} {n : Nat} {ls : List (Option AV)} {st : List AV} {σ : Hp} {k : Nat × Nat} : xe_X12_init ct K R (n + 1) 272 ls st σ k = (xk_X12_init ct K R n 274 ls (vi (48) :: st) σ k) := exS_step.trans rfl
theorem ev_X12_init_274 {ct : Nat → Bool} {K : Kt} {R : Option AV → Hp → Prop} {n : Nat} {ls : List (Option AV)} {st : List AV} {σ : Hp} {k : Nat × Nat} : xe_X12_init ct K R (n + 1) 274 ls st σ k = (oI st fun m st => (0 ≤ m ∧ m ≤ 65536) ∧ (k.1 + 1 ≤ 58 ∧ k.2 + m.toNat ≤ 32433) ∧ xk_X12_init ct K R n 276 ls (vr (nx σ) :: st) (mk σ 101 m) (k.1 + 1, k.2 + m.toNat)) := exS_step.trans rfl
theorem ev_X12_init_276 {ct : Nat → Bool} {K : Kt} {R : Option AV → Hp → Prop} {n : Nat} {ls : List (Option AV)} {st : List AV} {σ : Hp} {k : Nat × Nat} : xe_X12_init ct K R (n + 1) 276 ls st σ k = (oR st fun v st => oR st fun x st => kd σ x = 13 ∧ xk_X12_init ct K R n 279 ls st (pR σ 1356 x v) k) := exS_step.trans rfl
theorem ev_X12_init_279 {ct : Nat → Bool} {K : Kt} {R : Option AV → Hp → Prop} {n : Nat} {ls : List (Option AV)} {st : List AV} {σ : Hp} {k : Nat × Nat} : xe_X12_init ct K R (n + 1) 279 ls st σ k = (lR ls 0 fun x => xk_X12_init ct K R n 280 ls (vr x :: st) σ k) := exS_step.trans rfl
theorem ev_X12_init_280 {ct : Nat → Bool} {K : Kt} {R : Option AV → Hp → Prop} {n : Nat} {ls : List (Option AV)} {st : List AV} {σ : Hp} {k : Nat × Nat} : xe_X12_init ct K R (n + 1) 280 ls st σ k = (xk_X12_init ct K R n 282 ls (vi (48) :: st) σ k) := exS_step.trans rfl
theorem ev_X12_init_282 {ct : Nat → Bool} {K : Kt} {R : Option AV → Hp → Prop} {n : Nat} {ls : List (Option AV)} {st : List AV} {σ : Hp} {k : Nat × Nat} : xe_X12_init ct K R (n + 1) 282 ls st σ k = (oI st fun m st => (0 ≤ m ∧ m ≤ 65536) ∧ (k.1 + 1 ≤ 58 ∧ k.2 + m.toNat ≤ 32433) ∧ xk_X12_init ct K R n 284 ls (vr (nx σ) :: st) (mk σ 101 m) (k.1 + 1, k.2 + m.toNat)) := exS_step.trans rfl
theorem ev_X12_init_284 {ct : Nat → Bool} {K : Kt} {R : Option AV → Hp → Prop} {n : Nat} {ls : List (Option AV)} {st : List AV} {σ : Hp} {k : Nat × Nat} : xe_X12_init ct K R (n + 1) 284 ls st σ k = (oR st fun v st => oR st fun x st => kd σ x = 13 ∧ xk_X12_init ct K R n 287 ls st (pR σ 1357 x v) k) := exS_step.trans rfl
theorem ev_X12_init_287 {ct : Nat → Bool} {K : Kt} {R : Option AV → Hp → Prop} {n : Nat} {ls : List (Option AV)} {st : List AV} {σ : Hp} {k : Nat × Nat} : xe_X12_init ct K R (n + 1) 287 ls st σ k = (lR ls 0 fun x => xk_X12_init ct K R n 288 ls (vr x :: st) σ k) := exS_step.trans rfl
theorem ev_X12_init_288 {ct : Nat → Bool} {K : Kt} {R : Option AV → Hp → Prop} {n : Nat} {ls : List (Option AV)} {st : List AV} {σ : Hp} {k : Nat × Nat} : xe_X12_init ct K R (n + 1) 288 ls st σ k = (xk_X12_init ct K R n 291 ls (vi (2000) :: st) σ k) := exS_step.trans rfl
theorem ev_X12_init_291 {ct : Nat → Bool} {K : Kt} {R : Option AV → Hp → Prop} {n : Nat} {ls : List (Option AV)} {st : List AV} {σ : Hp} {k : Nat × Nat} : xe_X12_init ct K R (n + 1) 291 ls st σ k = (oI st fun m st => (0 ≤ m ∧ m ≤ 65536) ∧ (k.1 + 1 ≤ 58 ∧ k.2 + m.toNat ≤ 32433) ∧ xk_X12_init ct K R n 293 ls (vr (nx σ) :: st) (mk σ 101 m) (k.1 + 1, k.2 + m.toNat)) := exS_step.trans rfl
theorem ev_X12_init_293 {ct : Nat → Bool} {K : Kt} {R : Option AV → Hp → Prop} {n : Nat} {ls : List (Option AV)} {st : List AV} {σ : Hp} {k : Nat × Nat} : xe_X12_init ct K R (n + 1) 293 ls st σ k = (oR st fun v st => oR st fun x st => kd σ x = 13 ∧ xk_X12_init ct K R n 296 ls st (pR σ 1358 x v) k) := exS_step.trans rfl
theorem ev_X12_init_296 {ct : Nat → Bool} {K : Kt} {R : Option AV → Hp → Prop} {n : Nat} {ls : List (Option AV)} {st : List AV} {σ : Hp} {k : Nat × Nat} : xe_X12_init ct K R (n + 1) 296 ls st σ k = (lR ls 0 fun x => xk_X12_init ct K R n 297 ls (vr x :: st) σ k) := exS_step.trans rfl
theorem ev_X12_init_297 {ct : Nat → Bool} {K : Kt} {R : Option AV → Hp → Prop} {n : Nat} {ls : List (Option AV)} {st : List AV} {σ : Hp} {k : Nat × Nat} : xe_X12_init ct K R (n + 1) 297 ls st σ k = (xk_X12_init ct K R n 299 ls (vi (6) :: st) σ k) := exS_step.trans rfl
theorem ev_X12_init_299 {ct : Nat → Bool} {K : Kt} {R : Option AV → Hp → Prop} {n : Nat} {ls : List (Option AV)} {st : List AV} {σ : Hp} {k : Nat × Nat} : xe_X12_init ct K R (n + 1) 299 ls st σ k = (oI st fun m st => (0 ≤ m ∧ m ≤ 65536) ∧ (k.1 + 1 ≤ 58 ∧ k.2 + m.toNat ≤ 32433) ∧ xk_X12_init ct K R n 301 ls (vr (nx σ) :: st) (mk σ 101 m) (k.1 + 1, k.2 + m.toNat)) := exS_step.trans rfl
theorem ev_X12_init_301 {ct : Nat → Bool} {K : Kt} {R : Option AV → Hp → Prop} {n : Nat} {ls : List (Option AV)} {st : List AV} {σ : Hp} {k : Nat × Nat} : xe_X12_init ct K R (n + 1) 301 ls st σ k = (oR st fun v st => oR st fun x st => kd σ x = 13 ∧ xk_X12_init ct K R n 304 ls st (pR σ 1360 x v) k) := exS_step.trans rfl
theorem ev_X12_init_304 {ct : Nat → Bool} {K : Kt} {R : Option AV → Hp → Prop} {n : Nat} {ls : List (Option AV)} {st : List AV} {σ : Hp} {k : Nat × Nat} : xe_X12_init ct K R (n + 1) 304 ls st σ k = (lR ls 0 fun x => xk_X12_init ct K R n 305 ls (vr x :: st) σ k) := exS_step.trans rfl
theorem ev_X12_init_305 {ct : Nat → Bool} {K : Kt} {R : Option AV → Hp → Prop} {n : Nat} {ls : List (Option AV)} {st : List AV} {σ : Hp} {k : Nat × Nat} : xe_X12_init ct K R (n + 1) 305 ls st σ k = (xk_X12_init ct K R n 307 ls (vi (6) :: st) σ k) := exS_step.trans rfl
theorem ev_X12_init_307 {ct : Nat → Bool} {K : Kt} {R : Option AV → Hp → Prop} {n : Nat} {ls : List (Option AV)} {st : List AV} {σ : Hp} {k : Nat × Nat} : xe_X12_init ct K R (n + 1) 307 ls st σ k = (oI st fun m st => (0 ≤ m ∧ m ≤ 65536) ∧ (k.1 + 1 ≤ 58 ∧ k.2 + m.toNat ≤ 32433) ∧ xk_X12_init ct K R n 309 ls (vr (nx σ) :: st) (mk σ 103 m) (k.1 + 1, k.2 + m.toNat)) := exS_step.trans rfl
theorem ev_X12_init_309 {ct : Nat → Bool} {K : Kt} {R : Option AV → Hp → Prop} {n : Nat} {ls : List (Option AV)} {st : List AV} {σ : Hp} {k : Nat × Nat} : xe_X12_init ct K R (n + 1) 309 ls st σ k = (oR st fun v st => oR st fun x st => kd σ x = 13 ∧ xk_X12_init ct K R n 312 ls st (pR σ 1361 x v) k) := exS_step.trans rfl
theorem ev_X12_init_312 {ct : Nat → Bool} {K : Kt} {R : Option AV → Hp → Prop} {n : Nat} {ls : List (Option AV)} {st : List AV} {σ : Hp} {k : Nat × Nat} : xe_X12_init ct K R (n + 1) 312 ls st σ k = (lR ls 0 fun x => xk_X12_init ct K R n 313 ls (vr x :: st) σ k) := exS_step.trans rfl
theorem ev_X12_init_313 {ct : Nat → Bool} {K : Kt} {R : Option AV → Hp → Prop} {n : Nat} {ls : List (Option AV)} {st : List AV} {σ : Hp} {k : Nat × Nat} : xe_X12_init ct K R (n + 1) 313 ls st σ k = (xk_X12_init ct K R n 315 ls (vi (6) :: st) σ k) := exS_step.trans rfl
theorem ev_X12_init_315 {ct : Nat → Bool} {K : Kt} {R : Option AV → Hp → Prop} {n : Nat} {ls : List (Option AV)} {st : List AV} {σ : Hp} {k : Nat × Nat} : xe_X12_init ct K R (n + 1) 315 ls st σ k = (oI st fun m st => (0 ≤ m ∧ m ≤ 65536) ∧ (k.1 + 1 ≤ 58 ∧ k.2 + m.toNat ≤ 32433) ∧ xk_X12_init ct K R n 317 ls (vr (nx σ) :: st) (mk σ 101 m) (k.1 + 1, k.2 + m.toNat)) := exS_step.trans rfl
theorem ev_X12_init_317 {ct : Nat → Bool} {K : Kt} {R : Option AV → Hp → Prop} {n : Nat} {ls : List (Option AV)} {st : List AV} {σ : Hp} {k : Nat × Nat} : xe_X12_init ct K R (n + 1) 317 ls st σ k = (oR st fun v st => oR st fun x st => kd σ x = 13 ∧ xk_X12_init ct K R n 320 ls st (pR σ 1362 x v) k) := exS_step.trans rfl
theorem ev_X12_init_320 {ct : Nat → Bool} {K : Kt} {R : Option AV → Hp → Prop} {n : Nat} {ls : List (Option AV)} {st : List AV} {σ : Hp} {k : Nat × Nat} : xe_X12_init ct K R (n + 1) 320 ls st σ k = (lR ls 0 fun x => xk_X12_init ct K R n 321 ls (vr x :: st) σ k) := exS_step.trans rfl
theorem ev_X12_init_321 {ct : Nat → Bool} {K : Kt} {R : Option AV → Hp → Prop} {n : Nat} {ls : List (Option AV)} {st : List AV} {σ : Hp} {k : Nat × Nat} : xe_X12_init ct K R (n + 1) 321 ls st σ k = (xk_X12_init ct K R n 323 ls (vi (6) :: st) σ k) := exS_step.trans rfl
theorem ev_X12_init_323 {ct : Nat → Bool} {K : Kt} {R : Option AV → Hp → Prop} {n : Nat} {ls : List (Option AV)} {st : List AV} {σ : Hp} {k : Nat × Nat} : xe_X12_init ct K R (n + 1) 323 ls st σ k = (oI st fun m st => (0 ≤ m ∧ m ≤ 65536) ∧ (k.1 + 1 ≤ 58 ∧ k.2 + m.toNat ≤ 32433) ∧ xk_X12_init ct K R n 325 ls (vr (nx σ) :: st) (mk σ 101 m) (k.1 + 1, k.2 + m.toNat)) := exS_step.trans rfl
theorem ev_X12_init_325 {ct : Nat → Bool} {K : Kt} {R : Option AV → Hp → Prop} {n : Nat} {ls : List (Option AV)} {st : List AV} {σ : Hp} {k : Nat × Nat} : xe_X12_init ct K R (n + 1) 325 ls st σ k = (oR st fun v st => oR st fun x st => kd σ x = 13 ∧ xk_X12_init ct K R n 328 ls st (pR σ 1363 x v) k) := exS_step.trans rfl
theorem ev_X12_init_328 {ct : Nat → Bool} {K : Kt} {R : Option AV → Hp → Prop} {n : Nat} {ls : List (Option AV)} {st : List AV} {σ : Hp} {k : Nat × Nat} : xe_X12_init ct K R (n + 1) 328 ls st σ k = (lR ls 0 fun x => xk_X12_init ct K R n 329 ls (vr x :: st) σ k) := exS_step.trans rfl
theorem ev_X12_init_329 {ct : Nat → Bool} {K : Kt} {R : Option AV → Hp → Prop} {n : Nat} {ls : List (Option AV)} {st : List AV} {σ : Hp} {k : Nat × Nat} : xe_X12_init ct K R (n + 1) 329 ls st σ k = (xk_X12_init ct K R n 331 ls (vi (6) :: st) σ k) := exS_step.trans rfl
theorem ev_X12_init_331 {ct : Nat → Bool} {K : Kt} {R : Option AV → Hp → Prop} {n : Nat} {ls : List (Option AV)} {st : List AV} {σ : Hp} {k : Nat × Nat} : xe_X12_init ct K R (n + 1) 331 ls st σ k = (oI st fun m st => (0 ≤ m ∧ m ≤ 65536) ∧ (k.1 + 1 ≤ 58 ∧ k.2 + m.toNat ≤ 32433) ∧ xk_X12_init ct K R n 333 ls (vr (nx σ) :: st) (mk σ 101 m) (k.1 + 1, k.2 + m.toNat)) := exS_step.trans rfl
theorem ev_X12_init_333 {ct : Nat → Bool} {K : Kt} {R : Option AV → Hp → Prop} {n : Nat} {ls : List (Option AV)} {st : List AV} {σ : Hp} {k : Nat × Nat} : xe_X12_init ct K R (n + 1) 333 ls st σ k = (oR st fun v st => oR st fun x st => kd σ x = 13 ∧ xk_X12_init ct K R n 336 ls st (pR σ 1364 x v) k) := exS_step.trans rfl
theorem ev_X12_init_336 {ct : Nat → Bool} {K : Kt} {R : Option AV → Hp → Prop} {n : Nat} {ls : List (Option AV)} {st : List AV} {σ : Hp} {k : Nat × Nat} : xe_X12_init ct K R (n + 1) 336 ls st σ k = (lR ls 0 fun x => xk_X12_init ct K R n 337 ls (vr x :: st) σ k) := exS_step.trans rfl
theorem ev_X12_init_337 {ct : Nat → Bool} {K : Kt} {R : Option AV → Hp → Prop} {n : Nat} {ls : List (Option AV)} {st : List AV} {σ : Hp} {k : Nat × Nat} : xe_X12_init ct K R (n + 1) 337 ls st σ k = (xk_X12_init ct K R n 339 ls (vi (6) :: st) σ k) := exS_step.trans rfl
theorem ev_X12_init_339 {ct : Nat → Bool} {K : Kt} {R : Option AV → Hp → Prop} {n : Nat} {ls : List (Option AV)} {st : List AV} {σ : Hp} {k : Nat × Nat} : xe_X12_init ct K R (n + 1) 339 ls st σ k = (oI st fun m st => (0 ≤ m ∧ m ≤ 65536) ∧ (k.1 + 1 ≤ 58 ∧ k.2 + m.toNat ≤ 32433) ∧ xk_X12_init ct K R n 341 ls (vr (nx σ) :: st) (mk σ 101 m) (k.1 + 1, k.2 + m.toNat)) := exS_step.trans rfl
theorem ev_X12_init_341 {ct : Nat → Bool} {K : Kt} {R : Option AV → Hp → Prop} {n : Nat} {ls : List (Option AV)} {st : List AV} {σ : Hp} {k : Nat × Nat} : xe_X12_init ct K R (n + 1) 341 ls st σ k = (oR st fun v st => oR st fun x st => kd σ x = 13 ∧ xk_X12_init ct K R n 344 ls st (pR σ 1365 x v) k) := exS_step.trans rfl
theorem ev_X12_init_344 {ct : Nat → Bool} {K : Kt} {R : Option AV → Hp → Prop} {n : Nat} {ls : List (Option AV)} {st : List AV} {σ : Hp} {k : Nat × Nat} : xe_X12_init ct K R (n + 1) 344 ls st σ k = (lR ls 0 fun x => xk_X12_init ct K R n 345 ls (vr x :: st) σ k) := exS_step.trans rfl
theorem ev_X12_init_345 {ct : Nat → Bool} {K : Kt} {R : Option AV → Hp → Prop} {n : Nat} {ls : List (Option AV)} {st : List AV} {σ : Hp} {k : Nat × Nat} : xe_X12_init ct K R (n + 1) 345 ls st σ k = (xk_X12_init ct K R n 347 ls (vi (6) :: st) σ k) := exS_step.trans rfl
theorem ev_X12_init_347 {ct : Nat → Bool} {K : Kt} {R : Option AV → Hp → Prop} {n : Nat} {ls : List (Option AV)} {st : List AV} {σ : Hp} {k : Nat × Nat} : xe_X12_init ct K R (n + 1) 347 ls st σ k = (oI st fun m st => (0 ≤ m ∧ m ≤ 65536) ∧ (k.1 + 1 ≤ 58 ∧ k.2 + m.toNat ≤ 32433) ∧ xk_X12_init ct K R n 349 ls (vr (nx σ) :: st) (mk σ 101 m) (k.1 + 1, k.2 + m.toNat)) := exS_step.trans rfl
theorem ev_X12_init_349 {ct : Nat → Bool} {K : Kt} {R : Option AV → Hp → Prop} {n : Nat} {ls : List (Option AV)} {st : List AV} {σ : Hp} {k : Nat × Nat} : xe_X12_init ct K R (n + 1) 349 ls st σ k = (oR st fun v st => oR st fun x st => kd σ x = 13 ∧ xk_X12_init ct K R n 352 ls st (pR σ 1366 x v) k) := exS_step.trans rfl
theorem ev_X12_init_352 {ct : Nat → Bool} {K : Kt} {R : Option AV → Hp → Prop} {n : Nat} {ls : List (Option AV)} {st : List AV} {σ : Hp} {k : Nat × Nat} : xe_X12_init ct K R (n + 1) 352 ls st σ k = (lR ls 0 fun x => xk_X12_init ct K R n 353 ls (vr x :: st) σ k) := exS_step.trans rfl
theorem ev_X12_init_353 {ct : Nat → Bool} {K : Kt} {R : Option AV → Hp → Prop} {n : Nat} {ls : List (Option AV)} {st : List AV} {σ : Hp} {k : Nat × Nat} : xe_X12_init ct K R (n + 1) 353 ls st σ k = (xk_X12_init ct K R n 355 ls (vi (6) :: st) σ k) := exS_step.trans rfl
theorem ev_X12_init_355 {ct : Nat → Bool} {K : Kt} {R : Option AV → Hp → Prop} {n : Nat} {ls : List (Option AV)} {st : List AV} {σ : Hp} {k : Nat × Nat} : xe_X12_init ct K R (n + 1) 355 ls st σ k = (oI st fun m st => (0 ≤ m ∧ m ≤ 65536) ∧ (k.1 + 1 ≤ 58 ∧ k.2 + m.toNat ≤ 32433) ∧ xk_X12_init ct K R n 357 ls (vr (nx σ) :: st) (mk σ 101 m) (k.1 + 1, k.2 + m.toNat)) := exS_step.trans rfl
theorem ev_X12_init_357 {ct : Nat → Bool} {K : Kt} {R : Option AV → Hp → Prop} {n : Nat} {ls : List (Option AV)} {st : List AV} {σ : Hp} {k : Nat × Nat} : xe_X12_init ct K R (n + 1) 357 ls st σ k = (oR st fun v st => oR st fun x st => kd σ x = 13 ∧ xk_X12_init ct K R n 360 ls st (pR σ 1367 x v) k) := exS_step.trans rfl
theorem ev_X12_init_360 {ct : Nat → Bool} {K : Kt} {R : Option AV → Hp → Prop} {n : Nat} {ls : List (Option AV)} {st : List AV} {σ : Hp} {k : Nat × Nat} : xe_X12_init ct K R (n + 1) 360 ls st σ k = (lR ls 0 fun x => xk_X12_init ct K R n 361 ls (vr x :: st) σ k) := exS_step.trans rfl
theorem ev_X12_init_361 {ct : Nat → Bool} {K : Kt} {R : Option AV → Hp → Prop} {n : Nat} {ls : List (Option AV)} {st : List AV} {σ : Hp} {k : Nat × Nat} : xe_X12_init ct K R (n + 1) 361 ls st σ k = (xk_X12_init ct K R n 363 ls (vi (6) :: st) σ k) := exS_step.trans rfl
theorem ev_X12_init_363 {ct : Nat → Bool} {K : Kt} {R : Option AV → Hp → Prop} {n : Nat} {ls : List (Option AV)} {st : List AV} {σ : Hp} {k : Nat × Nat} : xe_X12_init ct K R (n + 1) 363 ls st σ k = (oI st fun m st => (0 ≤ m ∧ m ≤ 65536) ∧ (k.1 + 1 ≤ 58 ∧ k.2 + m.toNat ≤ 32433) ∧ xk_X12_init ct K R n 365 ls (vr (nx σ) :: st) (mk σ 101 m) (k.1 + 1, k.2 + m.toNat)) := exS_step.trans rfl
theorem ev_X12_init_365 {ct : Nat → Bool} {K : Kt} {R : Option AV → Hp → Prop} {n : Nat} {ls : List (Option AV)} {st : List AV} {σ : Hp} {k : Nat × Nat} : xe_X12_init ct K R (n + 1) 365 ls st σ k = (oR st fun v st => oR st fun x st => kd σ x = 13 ∧ xk_X12_init ct K R n 368 ls st (pR σ 1368 x v) k) := exS_step.trans rfl
theorem ev_X12_init_368 {ct : Nat → Bool} {K : Kt} {R : Option AV → Hp → Prop} {n : Nat} {ls : List (Option AV)} {st : List AV} {σ : Hp} {k : Nat × Nat} : xe_X12_init ct K R (n + 1) 368 ls st σ k = (lR ls 0 fun x => xk_X12_init ct K R n 369 ls (vr x :: st) σ k) := exS_step.trans rfl
theorem ev_X12_init_369 {ct : Nat → Bool} {K : Kt} {R : Option AV → Hp → Prop} {n : Nat} {ls : List (Option AV)} {st : List AV} {σ : Hp} {k : Nat × Nat} : xe_X12_init ct K R (n + 1) 369 ls st σ k = (xk_X12_init ct K R n 371 ls (vi (6) :: st) σ k) := exS_step.trans rfl
theorem ev_X12_init_371 {ct : Nat → Bool} {K : Kt} {R : Option AV → Hp → Prop} {n : Nat} {ls : List (Option AV)} {st : List AV} {σ : Hp} {k : Nat × Nat} : xe_X12_init ct K R (n + 1) 371 ls st σ k = (oI st fun m st => (0 ≤ m ∧ m ≤ 65536) ∧ (k.1 + 1 ≤ 58 ∧ k.2 + m.toNat ≤ 32433) ∧ xk_X12_init ct K R n 373 ls (vr (nx σ) :: st) (mk σ 101 m) (k.1 + 1, k.2 + m.toNat)) := exS_step.trans rfl
theorem ev_X12_init_373 {ct : Nat → Bool} {K : Kt} {R : Option AV → Hp → Prop} {n : Nat} {ls : List (Option AV)} {st : List AV} {σ : Hp} {k : Nat × Nat} : xe_X12_init ct K R (n + 1) 373 ls st σ k = (oR st fun v st => oR st fun x st => kd σ x = 13 ∧ xk_X12_init ct K R n 376 ls st (pR σ 1369 x v) k) := exS_step.trans rfl
theorem ev_X12_init_376 {ct : Nat → Bool} {K : Kt} {R : Option AV → Hp → Prop} {n : Nat} {ls : List (Option AV)} {st : List AV} {σ : Hp} {k : Nat × Nat} : xe_X12_init ct K R (n + 1) 376 ls st σ k = (lR ls 0 fun x => xk_X12_init ct K R n 377 ls (vr x :: st) σ k) := exS_step.trans rfl
theorem ev_X12_init_377 {ct : Nat → Bool} {K : Kt} {R : Option AV → Hp → Prop} {n : Nat} {ls : List (Option AV)} {st : List AV} {σ : Hp} {k : Nat × Nat} : xe_X12_init ct K R (n + 1) 377 ls st σ k = (xk_X12_init ct K R n 379 ls (vi (8) :: st) σ k) := exS_step.trans rfl
theorem ev_X12_init_379 {ct : Nat → Bool} {K : Kt} {R : Option AV → Hp → Prop} {n : Nat} {ls : List (Option AV)} {st : List AV} {σ : Hp} {k : Nat × Nat} : xe_X12_init ct K R (n + 1) 379 ls st σ k = (oI st fun m st => (0 ≤ m ∧ m ≤ 65536) ∧ (k.1 + 1 ≤ 58 ∧ k.2 + m.toNat ≤ 32433) ∧ xk_X12_init ct K R n 381 ls (vr (nx σ) :: st) (mk σ 101 m) (k.1 + 1, k.2 + m.toNat)) := exS_step.trans rfl
theorem ev_X12_init_381 {ct : Nat → Bool} {K : Kt} {R : Option AV → Hp → Prop} {n : Nat} {ls : List (Option AV)} {st : List AV} {σ : Hp} {k : Nat × Nat} : xe_X12_init ct K R (n + 1) 381 ls st σ k = (oR st fun v st => oR st fun x st => kd σ x = 13 ∧ xk_X12_init ct K R n 384 ls st (pR σ 1370 x v) k) := exS_step.trans rfl
theorem ev_X12_init_384 {ct : Nat → Bool} {K : Kt} {R : Option AV → Hp → Prop} {n : Nat} {ls : List (Option AV)} {st : List AV} {σ : Hp} {k : Nat × Nat} : xe_X12_init ct K R (n + 1) 384 ls st σ k = (lR ls 0 fun x => xk_X12_init ct K R n 385 ls (vr x :: st) σ k) := exS_step.trans rfl
theorem ev_X12_init_385 {ct : Nat → Bool} {K : Kt} {R : Option AV → Hp → Prop} {n : Nat} {ls : List (Option AV)} {st : List AV} {σ : Hp} {k : Nat × Nat} : xe_X12_init ct K R (n + 1) 385 ls st σ k = (xk_X12_init ct K R n 387 ls (vi (100) :: st) σ k) := exS_step.trans rfl
theorem ev_X12_init_387 {ct : Nat → Bool} {K : Kt} {R : Option AV → Hp → Prop} {n : Nat} {ls : List (Option AV)} {st : List AV} {σ : Hp} {k : Nat × Nat} : xe_X12_init ct K R (n + 1) 387 ls st σ k = (oI st fun m st => (0 ≤ m ∧ m ≤ 65536) ∧ (k.1 + 1 ≤ 58 ∧ k.2 + m.toNat ≤ 32433) ∧ xk_X12_init ct K R n 389 ls (vr (nx σ) :: st) (mk σ 101 m) (k.1 + 1, k.2 + m.toNat)) := exS_step.trans rfl
theorem ev_X12_init_389 {ct : Nat → Bool} {K : Kt} {R : Option AV → Hp → Prop} {n : Nat} {ls : List (Option AV)} {st : List AV} {σ : Hp} {k : Nat × Nat} : xe_X12_init ct K R (n + 1) 389 ls st σ k = (oR st fun v st => oR st fun x st => kd σ x = 13 ∧ xk_X12_init ct K R n 392 ls st (pR σ 1372 x v) k) := exS_step.trans rfl
theorem ev_X12_init_392 {ct : Nat → Bool} {K : Kt} {R : Option AV → Hp → Prop} {n : Nat} {ls : List (Option AV)} {st : List AV} {σ : Hp} {k : Nat × Nat} : xe_X12_init ct K R (n + 1) 392 ls st σ k = (lR ls 0 fun x => xk_X12_init ct K R n 393 ls (vr x :: st) σ k) := exS_step.trans rfl
theorem ev_X12_init_393 {ct : Nat → Bool} {K : Kt} {R : Option AV → Hp → Prop} {n : Nat} {ls : List (Option AV)} {st : List AV} {σ : Hp} {k : Nat × Nat} : xe_X12_init ct K R (n + 1) 393 ls st σ k = (xk_X12_init ct K R n 395 ls (vi (100) :: st) σ k) := exS_step.trans rfl
theorem ev_X12_init_395 {ct : Nat → Bool} {K : Kt} {R : Option AV → Hp → Prop} {n : Nat} {ls : List (Option AV)} {st : List AV} {σ : Hp} {k : Nat × Nat} : xe_X12_init ct K R (n + 1) 395 ls st σ k = (oI st fun m st => (0 ≤ m ∧ m ≤ 65536) ∧ (k.1 + 1 ≤ 58 ∧ k.2 + m.toNat ≤ 32433) ∧ xk_X12_init ct K R n 397 ls (vr (nx σ) :: st) (mk σ 101 m) (k.1 + 1, k.2 + m.toNat)) := exS_step.trans rfl
theorem ev_X12_init_397 {ct : Nat → Bool} {K : Kt} {R : Option AV → Hp → Prop} {n : Nat} {ls : List (Option AV)} {st : List AV} {σ : Hp} {k : Nat × Nat} : xe_X12_init ct K R (n + 1) 397 ls st σ k = (oR st fun v st => oR st fun x st => kd σ x = 13 ∧ xk_X12_init ct K R n 400 ls st (pR σ 1373 x v) k) := exS_step.trans rfl
theorem ev_X12_init_400 {ct : Nat → Bool} {K : Kt} {R : Option AV → Hp → Prop} {n : Nat} {ls : List (Option AV)} {st : List AV} {σ : Hp} {k : Nat × Nat} : xe_X12_init ct K R (n + 1) 400 ls st σ k = (lR ls 0 fun x => xk_X12_init ct K R n 401 ls (vr x :: st) σ k) := exS_step.trans rfl
theorem ev_X12_init_401 {ct : Nat → Bool} {K : Kt} {R : Option AV → Hp → Prop} {n : Nat} {ls : List (Option AV)} {st : List AV} {σ : Hp} {k : Nat × Nat} : xe_X12_init ct K R (n + 1) 401 ls st σ k = (xk_X12_init ct K R n 403 ls (vi (100) :: st) σ k) := exS_step.trans rfl
theorem ev_X12_init_403 {ct : Nat → Bool} {K : Kt} {R : Option AV → Hp → Prop} {n : Nat} {ls : List (Option AV)} {st : List AV} {σ : Hp} {k : Nat × Nat} : xe_X12_init ct K R (n + 1) 403 ls st σ k = (oI st fun m st => (0 ≤ m ∧ m ≤ 65536) ∧ (k.1 + 1 ≤ 58 ∧ k.2 + m.toNat ≤ 32433) ∧ xk_X12_init ct K R n 405 ls (vr (nx σ) :: st) (mk σ 101 m) (k.1 + 1, k.2 + m.toNat)) := exS_step.trans rfl
theorem ev_X12_init_405 {ct : Nat → Bool} {K : Kt} {R : Option AV → Hp → Prop} {n : Nat} {ls : List (Option AV)} {st : List AV} {σ : Hp} {k : Nat × Nat} : xe_X12_init ct K R (n + 1) 405 ls st σ k = (oR st fun v st => oR st fun x st => kd σ x = 13 ∧ xk_X12_init ct K R n 408 ls st (pR σ 1374 x v) k) := exS_step.trans rfl
theorem ev_X12_init_408 {ct : Nat → Bool} {K : Kt} {R : Option AV → Hp → Prop} {n : Nat} {ls : List (Option AV)} {st : List AV} {σ : Hp} {k : Nat × Nat} : xe_X12_init ct K R (n + 1) 408 ls st σ k = (lR ls 0 fun x => xk_X12_init ct K R n 409 ls (vr x :: st) σ k) := exS_step.trans rfl
theorem ev_X12_init_409 {ct : Nat → Bool} {K : Kt} {R : Option AV → Hp → Prop} {n : Nat} {ls : List (Option AV)} {st : List AV} {σ : Hp} {k : Nat × Nat} : xe_X12_init ct K R (n + 1) 409 ls st σ k = (xk_X12_init ct K R n 411 ls (vi (100) :: st) σ k) := exS_step.trans rfl
theorem ev_X12_init_411 {ct : Nat → Bool} {K : Kt} {R : Option AV → Hp → Prop} {n : Nat} {ls : List (Option AV)} {st : List AV} {σ : Hp} {k : Nat × Nat} : xe_X12_init ct K R (n + 1) 411 ls st σ k = (oI st fun m st => (0 ≤ m ∧ m ≤ 65536) ∧ (k.1 + 1 ≤ 58 ∧ k.2 + m.toNat ≤ 32433) ∧ xk_X12_init ct K R n 413 ls (vr (nx σ) :: st) (mk σ 103 m) (k.1 + 1, k.2 + m.toNat)) := exS_step.trans rfl
theorem ev_X12_init_413 {ct : Nat → Bool} {K : Kt} {R : Option AV → Hp → Prop} {n : Nat} {ls : List (Option AV)} {st : List AV} {σ : Hp} {k : Nat × Nat} : xe_X12_init ct K R (n + 1) 413 ls st σ k = (oR st fun v st => oR st fun x st => kd σ x = 13 ∧ xk_X12_init ct K R n 416 ls st (pR σ 1375 x v) k) := exS_step.trans rfl
theorem ev_X12_init_416 {ct : Nat → Bool} {K : Kt} {R : Option AV → Hp → Prop} {n : Nat} {ls : List (Option AV)} {st : List AV} {σ : Hp} {k : Nat × Nat} : xe_X12_init ct K R (n + 1) 416 ls st σ k = (lR ls 0 fun x => xk_X12_init ct K R n 417 ls (vr x :: st) σ k) := exS_step.trans rfl
theorem ev_X12_init_417 {ct : Nat → Bool} {K : Kt} {R : Option AV → Hp → Prop} {n : Nat} {ls : List (Option AV)} {st : List AV} {σ : Hp} {k : Nat × Nat} : xe_X12_init ct K R (n + 1) 417 ls st σ k = (xk_X12_init ct K R n 419 ls (vi (100) :: st) σ k) := exS_step.trans rfl
theorem ev_X12_init_419 {ct : Nat → Bool} {K : Kt} {R : Option AV → Hp → Prop} {n : Nat} {ls : List (Option AV)} {st : List AV} {σ : Hp} {k : Nat × Nat} : xe_X12_init ct K R (n + 1) 419 ls st σ k = (oI st fun m st => (0 ≤ m ∧ m ≤ 65536) ∧ (k.1 + 1 ≤ 58 ∧ k.2 + m.toNat ≤ 32433) ∧ xk_X12_init ct K R n 421 ls (vr (nx σ) :: st) (mk σ 103 m) (k.1 + 1, k.2 + m.toNat)) := exS_step.trans rfl
theorem ev_X12_init_421 {ct : Nat → Bool} {K : Kt} {R : Option AV → Hp → Prop} {n : Nat} {ls : List (Option AV)} {st : List AV} {σ : Hp} {k : Nat × Nat} : xe_X12_init ct K R (n + 1) 421 ls st σ k = (oR st fun v st => oR st fun x st => kd σ x = 13 ∧ xk_X12_init ct K R n 424 ls st (pR σ 1376 x v) k) := exS_step.trans rfl
theorem ev_X12_init_424 {ct : Nat → Bool} {K : Kt} {R : Option AV → Hp → Prop} {n : Nat} {ls : List (Option AV)} {st : List AV} {σ : Hp} {k : Nat × Nat} : xe_X12_init ct K R (n + 1) 424 ls st σ k = (lR ls 0 fun x => xk_X12_init ct K R n 425 ls (vr x :: st) σ k) := exS_step.trans rfl
theorem ev_X12_init_425 {ct : Nat → Bool} {K : Kt} {R : Option AV → Hp → Prop} {n : Nat} {ls : List (Option AV)} {st : List AV} {σ : Hp} {k : Nat × Nat} : xe_X12_init ct K R (n + 1) 425 ls st σ k = (xk_X12_init ct K R n 427 ls (vi (100) :: st) σ k) := exS_step.trans rfl
theorem ev_X12_init_427 {ct : Nat → Bool} {K : Kt} {R : Option AV → Hp → Prop} {n : Nat} {ls : List (Option AV)} {st : List AV} {σ : Hp} {k : Nat × Nat} : xe_X12_init ct K R (n + 1) 427 ls st σ k = (oI st fun m st => (0 ≤ m ∧ m ≤ 65536) ∧ (k.1 + 1 ≤ 58 ∧ k.2 + m.toNat ≤ 32433) ∧ xk_X12_init ct K R n 429 ls (vr (nx σ) :: st) (mk σ 101 m) (k.1 + 1, k.2 + m.toNat)) := exS_step.trans rfl
theorem ev_X12_init_429 {ct : Nat → Bool} {K : Kt} {R : Option AV → Hp → Prop} {n : Nat} {ls : List (Option AV)} {st : List AV} {σ : Hp} {k : Nat × Nat} : xe_X12_init ct K R (n + 1) 429 ls st σ k = (oR st fun v st => oR st fun x st => kd σ x = 13 ∧ xk_X12_init ct K R n 432 ls st (pR σ 1377 x v) k) := exS_step.trans rfl
theorem ev_X12_init_432 {ct : Nat → Bool} {K : Kt} {R : Option AV → Hp → Prop} {n : Nat} {ls : List (Option AV)} {st : List AV} {σ : Hp} {k : Nat × Nat} : xe_X12_init ct K R (n + 1) 432 ls st σ k = (lR ls 0 fun x => xk_X12_init ct K R n 433 ls (vr x :: st) σ k) := exS_step.trans rfl
theorem ev_X12_init_433 {ct : Nat → Bool} {K : Kt} {R : Option AV → Hp → Prop} {n : Nat} {ls : List (Option AV)} {st : List AV} {σ : Hp} {k : Nat × Nat} : xe_X12_init ct K R (n + 1) 433 ls st σ k = (xk_X12_init ct K R n 435 ls (vi (100) :: st) σ k) := exS_step.trans rfl
theorem ev_X12_init_435 {ct : Nat → Bool} {K : Kt} {R : Option AV → Hp → Prop} {n : Nat} {ls : List (Option AV)} {st : List AV} {σ : Hp} {k : Nat × Nat} : xe_X12_init ct K R (n + 1) 435 ls st σ k = (oI st fun m st => (0 ≤ m ∧ m ≤ 65536) ∧ (k.1 + 1 ≤ 58 ∧ k.2 + m.toNat ≤ 32433) ∧ xk_X12_init ct K R n 437 ls (vr (nx σ) :: st) (mk σ 101 m) (k.1 + 1, k.2 + m.toNat)) := exS_step.trans rfl
theorem ev_X12_init_437 {ct : Nat → Bool} {K : Kt} {R : Option AV → Hp → Prop} {n : Nat} {ls : List (Option AV)} {st : List AV} {σ : Hp} {k : Nat × Nat} : xe_X12_init ct K R (n + 1) 437 ls st σ k = (oR st fun v st => oR st fun x st => kd σ x = 13 ∧ xk_X12_init ct K R n 440 ls st (pR σ 1378 x v) k) := exS_step.trans rfl
theorem ev_X12_init_440 {ct : Nat → Bool} {K : Kt} {R : Option AV → Hp → Prop} {n : Nat} {ls : List (Option AV)} {st : List AV} {σ : Hp} {k : Nat × Nat} : xe_X12_init ct K R (n + 1) 440 ls st σ k = (lR ls 0 fun x => xk_X12_init ct K R n 441 ls (vr x :: st) σ k) := exS_step.trans rfl
theorem ev_X12_init_441 {ct : Nat → Bool} {K : Kt} {R : Option AV → Hp → Prop} {n : Nat} {ls : List (Option AV)} {st : List AV} {σ : Hp} {k : Nat × Nat} : xe_X12_init ct K R (n + 1) 441 ls st σ k = (xk_X12_init ct K R n 444 ls (vi (2000) :: st) σ k) := exS_step.trans rfl
theorem ev_X12_init_444 {ct : Nat → Bool} {K : Kt} {R : Option AV → Hp → Prop} {n : Nat} {ls : List (Option AV)} {st : List AV} {σ : Hp} {k : Nat × Nat} : xe_X12_init ct K R (n + 1) 444 ls st σ k = (oI st fun m st => (0 ≤ m ∧ m ≤ 65536) ∧ (k.1 + 1 ≤ 58 ∧ k.2 + m.toNat ≤ 32433) ∧ xk_X12_init ct K R n 446 ls (vr (nx σ) :: st) (mk σ 101 m) (k.1 + 1, k.2 + m.toNat)) := exS_step.trans rfl
theorem ev_X12_init_446 {ct : Nat → Bool} {K : Kt} {R : Option AV → Hp → Prop} {n : Nat} {ls : List (Option AV)} {st : List AV} {σ : Hp} {k : Nat × Nat} : xe_X12_init ct K R (n + 1) 446 ls st σ k = (oR st fun v st => oR st fun x st => kd σ x = 13 ∧ xk_X12_init ct K R n 449 ls st (pR σ 1379 x v) k) := exS_step.trans rfl
theorem ev_X12_init_449 {ct : Nat → Bool} {K : Kt} {R : Option AV → Hp → Prop} {n : Nat} {ls : List (Option AV)} {st : List AV} {σ : Hp} {k : Nat × Nat} : xe_X12_init ct K R (n + 1) 449 ls st σ k = (lR ls 0 fun x => xk_X12_init ct K R n 450 ls (vr x :: st) σ k) := exS_step.trans rfl
theorem ev_X12_init_450 {ct : Nat → Bool} {K : Kt} {R : Option AV → Hp → Prop} {n : Nat} {ls : List (Option AV)} {st : List AV} {σ : Hp} {k : Nat × Nat} : xe_X12_init ct K R (n + 1) 450 ls st σ k = (xk_X12_init ct K R n 453 ls (vi (200) :: st) σ k) := exS_step.trans rfl
theorem ev_X12_init_453 {ct : Nat → Bool} {K : Kt} {R : Option AV → Hp → Prop} {n : Nat} {ls : List (Option AV)} {st : List AV} {σ : Hp} {k : Nat × Nat} : xe_X12_init ct K R (n + 1) 453 ls st σ k = (oI st fun m st => (0 ≤ m ∧ m ≤ 65536) ∧ (k.1 + 1 ≤ 58 ∧ k.2 + m.toNat ≤ 32433) ∧ xk_X12_init ct K R n 455 ls (vr (nx σ) :: st) (mk σ 101 m) (k.1 + 1, k.2 + m.toNat)) := exS_step.trans rfl
theorem ev_X12_init_455 {ct : Nat → Bool} {K : Kt} {R : Option AV → Hp → Prop} {n : Nat} {ls : List (Option AV)} {st : List AV} {σ : Hp} {k : Nat × Nat} : xe_X12_init ct K R (n + 1) 455 ls st σ k = (oR st fun v st => oR st fun x st => kd σ x = 13 ∧ xk_X12_init ct K R n 458 ls st (pR σ 1381 x v) k) := exS_step.trans rfl
theorem ev_X12_init_458 {ct : Nat → Bool} {K : Kt} {R : Option AV → Hp → Prop} {n : Nat} {ls : List (Option AV)} {st : List AV} {σ : Hp} {k : Nat × Nat} : xe_X12_init ct K R (n + 1) 458 ls st σ k = (lR ls 0 fun x => xk_X12_init ct K R n 459 ls (vr x :: st) σ k) := exS_step.trans rfl
theorem ev_X12_init_459 {ct : Nat → Bool} {K : Kt} {R : Option AV → Hp → Prop} {n : Nat} {ls : List (Option AV)} {st : List AV} {σ : Hp} {k : Nat × Nat} : xe_X12_init ct K R (n + 1) 459 ls st σ k = (xk_X12_init ct K R n 462 ls (vi (200) :: st) σ k) := exS_step.trans rfl
theorem ev_X12_init_462 {ct : Nat → Bool} {K : Kt} {R : Option AV → Hp → Prop} {n : Nat} {ls : List (Option AV)} {st : List AV} {σ : Hp} {k : Nat × Nat} : xe_X12_init ct K R (n + 1) 462 ls st σ k = (oI st fun m st => (0 ≤ m ∧ m ≤ 65536) ∧ (k.1 + 1 ≤ 58 ∧ k.2 + m.toNat ≤ 32433) ∧ xk_X12_init ct K R n 464 ls (vr (nx σ) :: st) (mk σ 103 m) (k.1 + 1, k.2 + m.toNat)) := exS_step.trans rfl
theorem ev_X12_init_464 {ct : Nat → Bool} {K : Kt} {R : Option AV → Hp → Prop} {n : Nat} {ls : List (Option AV)} {st : List AV} {σ : Hp} {k : Nat × Nat} : xe_X12_init ct K R (n + 1) 464 ls st σ k = (oR st fun v st => oR st fun x st => kd σ x = 13 ∧ xk_X12_init ct K R n 467 ls st (pR σ 1382 x v) k) := exS_step.trans rfl
theorem ev_X12_init_467 {ct : Nat → Bool} {K : Kt} {R : Option AV → Hp → Prop} {n : Nat} {ls : List (Option AV)} {st : List AV} {σ : Hp} {k : Nat × Nat} : xe_X12_init ct K R (n + 1) 467 ls st σ k = (lR ls 0 fun x => xk_X12_init ct K R n 468 ls (vr x :: st) σ k) := exS_step.trans rfl
theorem ev_X12_init_468 {ct : Nat → Bool} {K : Kt} {R : Option AV → Hp → Prop} {n : Nat} {ls : List (Option AV)} {st : List AV} {σ : Hp} {k : Nat × Nat} : xe_X12_init ct K R (n + 1) 468 ls st σ k = (xk_X12_init ct K R n 471 ls (vi (200) :: st) σ k) := exS_step.trans rfl
theorem ev_X12_init_471 {ct : Nat → Bool} {K : Kt} {R : Option AV → Hp → Prop} {n : Nat} {ls : List (Option AV)} {st : List AV} {σ : Hp} {k : Nat × Nat} : xe_X12_init ct K R (n + 1) 471 ls st σ k = (oI st fun m st => (0 ≤ m ∧ m ≤ 65536) ∧ (k.1 + 1 ≤ 58 ∧ k.2 + m.toNat ≤ 32433) ∧ xk_X12_init ct K R n 473 ls (vr (nx σ) :: st) (mk σ 101 m) (k.1 + 1, k.2 + m.toNat)) := exS_step.trans rfl
theorem ev_X12_init_473 {ct : Nat → Bool} {K : Kt} {R : Option AV → Hp → Prop} {n : Nat} {ls : List (Option AV)} {st : List AV} {σ : Hp} {k : Nat × Nat} : xe_X12_init ct K R (n + 1) 473 ls st σ k = (oR st fun v st => oR st fun x st => kd σ x = 13 ∧ xk_X12_init ct K R n 476 ls st (pR σ 1383 x v) k) := exS_step.trans rfl
theorem ev_X12_init_476 {ct : Nat → Bool} {K : Kt} {R : Option AV → Hp → Prop} {n : Nat} {ls : List (Option AV)} {st : List AV} {σ : Hp} {k : Nat × Nat} : xe_X12_init ct K R (n + 1) 476 ls st σ k = (xk_X12_init ct K R n 477 ls (vi (0) :: st) σ k) := exS_step.trans rfl
theorem ev_X12_init_477 {ct : Nat → Bool} {K : Kt} {R : Option AV → Hp → Prop} {n : Nat} {ls : List (Option AV)} {st : List AV} {σ : Hp} {k : Nat × Nat} : xe_X12_init ct K R (n + 1) 477 ls st σ k = (oI st fun x st => 1 < 2 ∧ xk_X12_init ct K R n 478 (stL ls 1 (vi x)) st σ k) := exS_step.trans rfl
theorem ev_X12_init_478 {ct : Nat → Bool} {K : Kt} {R : Option AV → Hp → Prop} {n : Nat} {ls : List (Option AV)} {st : List AV} {σ : Hp} {k : Nat × Nat} : xe_X12_init ct K R (n + 1) 478 ls st σ k = (lI ls 1 fun x => xk_X12_init ct K R n 479 ls (vi x :: st) σ k) := exS_step.trans rfl
theorem ev_X12_init_479 {ct : Nat → Bool} {K : Kt} {R : Option AV → Hp → Prop} {n : Nat} {ls : List (Option AV)} {st : List AV} {σ : Hp} {k : Nat × Nat} : xe_X12_init ct K R (n + 1) 479 ls st σ k = (xk_X12_init ct K R n 480 ls (vi (4) :: st) σ k) := exS_step.trans rfl
theorem ev_X12_init_480 {ct : Nat → Bool} {K : Kt} {R : Option AV → Hp → Prop} {n : Nat} {ls : List (Option AV)} {st : List AV} {σ : Hp} {k : Nat × Nat} : xe_X12_init ct K R (n + 1) 480 ls st σ k = (oI st fun y st => oI st fun x st => (wI y ≤ wI x → xk_X12_init ct K R n 498 ls st σ k) ∧ (¬ (wI y ≤ wI x) → xk_X12_init ct K R n 483 ls st σ k)) := exS_step.trans rfl
theorem ev_X12_init_483 {ct : Nat → Bool} {K : Kt} {R : Option AV → Hp → Prop} {n : Nat} {ls : List (Option AV)} {st : List AV} {σ : Hp} {k : Nat × Nat} : xe_X12_init ct K R (n + 1) 483 ls st σ k = (lR ls 0 fun x => xk_X12_init ct K R n 484 ls (vr x :: st) σ k) := exS_step.trans rfl
theorem ev_X12_init_484 {ct : Nat → Bool} {K : Kt} {R : Option AV → Hp → Prop} {n : Nat} {ls : List (Option AV)} {st : List AV} {σ : Hp} {k : Nat × Nat} : xe_X12_init ct K R (n + 1) 484 ls st σ k = (oR st fun x st => kd σ x = 13 ∧ xk_X12_init ct K R n 487 ls (vr (fR σ 1318 x) :: st) σ k) := exS_step.trans rfl
theorem ev_X12_init_487 {ct : Nat → Bool} {K : Kt} {R : Option AV → Hp → Prop} {n : Nat} {ls : List (Option AV)} {st : List AV} {σ : Hp} {k : Nat × Nat} : xe_X12_init ct K R (n + 1) 487 ls st σ k = (lI ls 1 fun x => xk_X12_init ct K R n 488 ls (vi x :: st) σ k) := exS_step.trans rfl
theorem ev_X12_init_488 {ct : Nat → Bool} {K : Kt} {R : Option AV → Hp → Prop} {n : Nat} {ls : List (Option AV)} {st : List AV} {σ : Hp} {k : Nat × Nat} : xe_X12_init ct K R (n + 1) 488 ls st σ k = (xk_X12_init ct K R n 491 ls (vi (-1000) :: st) σ k) := exS_step.trans rfl
theorem ev_X12_init_491 {ct : Nat → Bool} {K : Kt} {R : Option AV → Hp → Prop} {n : Nat} {ls : List (Option AV)} {st : List AV} {σ : Hp} {k : Nat × Nat} : xe_X12_init ct K R (n + 1) 491 ls st σ k = (oI st fun v st => oI st fun j st => oR st fun x st => kd σ x = 101 ∧ (0 ≤ j ∧ j < ln σ x) ∧ xk_X12_init ct K R n 492 ls st (qI σ x j v) k) := exS_step.trans rfl
theorem ev_X12_init_492 {ct : Nat → Bool} {K : Kt} {R : Option AV → Hp → Prop} {n : Nat} {ls : List (Option AV)} {st : List AV} {σ : Hp} {k : Nat × Nat} : xe_X12_init ct K R (n + 1) 492 ls st σ k = (lI ls 1 fun x => 1 < 2 ∧ xk_X12_init ct K R n 495 (stL ls 1 (vi (x + (1)))) st σ k) := exS_step.trans rfl
theorem ev_X12_init_495 {ct : Nat → Bool} {K : Kt} {R : Option AV → Hp → Prop} {n : Nat} {ls : List (Option AV)} {st : List AV} {σ : Hp} {k : Nat × Nat} : xe_X12_init ct K R (n + 1) 495 ls st σ k = (xk_X12_init ct K R n 478 ls st σ k) := exS_step.trans rfl
theorem ev_X12_init_498 {ct : Nat → Bool} {K : Kt} {R : Option AV → Hp → Prop} {n : Nat} {ls : List (Option AV)} {st : List AV} {σ : Hp} {k : Nat × Nat} : xe_X12_init ct K R (n + 1) 498 ls st σ k = (xk_X12_init ct K R n 499 ls (vi (0) :: st) σ k) := exS_step.trans rfl
theorem ev_X12_init_499 {ct : Nat → Bool} {K : Kt} {R : Option AV → Hp → Prop} {n : Nat} {ls : List (Option AV)} {st : List AV} {σ : Hp} {k : Nat × Nat} : xe_X12_init ct K R (n + 1) 499 ls st σ k = (oI st fun x st => 1 < 2 ∧ xk_X12_init ct K R n 500 (stL ls 1 (vi x)) st σ k) := exS_step.trans rfl
theorem ev_X12_init_500 {ct : Nat → Bool} {K : Kt} {R : Option AV → Hp → Prop} {n : Nat} {ls : List (Option AV)} {st : List AV} {σ : Hp} {k : Nat × Nat} : xe_X12_init ct K R (n + 1) 500 ls st σ k = (lI ls 1 fun x => xk_X12_init ct K R n 501 ls (vi x :: st) σ k) := exS_step.trans rfl
theorem ev_X12_init_501 {ct : Nat → Bool} {K : Kt} {R : Option AV → Hp → Prop} {n : Nat} {ls : List (Option AV)} {st : List AV} {σ : Hp} {k : Nat × Nat} : xe_X12_init ct K R (n + 1) 501 ls st σ k = (xk_X12_init ct K R n 503 ls (vi (32) :: st) σ k) := exS_step.trans rfl
theorem ev_X12_init_503 {ct : Nat → Bool} {K : Kt} {R : Option AV → Hp → Prop} {n : Nat} {ls : List (Option AV)} {st : List AV} {σ : Hp} {k : Nat × Nat} : xe_X12_init ct K R (n + 1) 503 ls st σ k = (oI st fun y st => oI st fun x st => (wI y ≤ wI x → xk_X12_init ct K R n 519 ls st σ k) ∧ (¬ (wI y ≤ wI x) → xk_X12_init ct K R n 506 ls st σ k)) := exS_step.trans rfl
theorem ev_X12_init_506 {ct : Nat → Bool} {K : Kt} {R : Option AV → Hp → Prop} {n : Nat} {ls : List (Option AV)} {st : List AV} {σ : Hp} {k : Nat × Nat} : xe_X12_init ct K R (n + 1) 506 ls st σ k = (lR ls 0 fun x => xk_X12_init ct K R n 507 ls (vr x :: st) σ k) := exS_step.trans rfl
theorem ev_X12_init_507 {ct : Nat → Bool} {K : Kt} {R : Option AV → Hp → Prop} {n : Nat} {ls : List (Option AV)} {st : List AV} {σ : Hp} {k : Nat × Nat} : xe_X12_init ct K R (n + 1) 507 ls st σ k = (oR st fun x st => kd σ x = 13 ∧ xk_X12_init ct K R n 510 ls (vr (fR σ 1310 x) :: st) σ k) := exS_step.trans rfl
theorem ev_X12_init_510 {ct : Nat → Bool} {K : Kt} {R : Option AV → Hp → Prop} {n : Nat} {ls : List (Option AV)} {st : List AV} {σ : Hp} {k : Nat × Nat} : xe_X12_init ct K R (n + 1) 510 ls st σ k = (lI ls 1 fun x => xk_X12_init ct K R n 511 ls (vi x :: st) σ k) := exS_step.trans rfl
theorem ev_X12_init_511 {ct : Nat → Bool} {K : Kt} {R : Option AV → Hp → Prop} {n : Nat} {ls : List (Option AV)} {st : List AV} {σ : Hp} {k : Nat × Nat} : xe_X12_init ct K R (n + 1) 511 ls st σ k = (xk_X12_init ct K R n 512 ls (vi (-1) :: st) σ k) := exS_step.trans rfl
theorem ev_X12_init_512 {ct : Nat → Bool} {K : Kt} {R : Option AV → Hp → Prop} {n : Nat} {ls : List (Option AV)} {st : List AV} {σ : Hp} {k : Nat × Nat} : xe_X12_init ct K R (n + 1) 512 ls st σ k = (oI st fun v st => oI st fun j st => oR st fun x st => kd σ x = 101 ∧ (0 ≤ j ∧ j < ln σ x) ∧ xk_X12_init ct K R n 513 ls st (qI σ x j v) k) := exS_step.trans rfl
theorem ev_X12_init_513 {ct : Nat → Bool} {K : Kt} {R : Option AV → Hp → Prop} {n : Nat} {ls : List (Option AV)} {st : List AV} {σ : Hp} {k : Nat × Nat} : xe_X12_init ct K R (n + 1) 513 ls st σ k = (lI ls 1 fun x => 1 < 2 ∧ xk_X12_init ct K R n 516 (stL ls 1 (vi (x + (1)))) st σ k) := exS_step.trans rfl
theorem ev_X12_init_516 {ct : Nat → Bool} {K : Kt} {R : Option AV → Hp → Prop} {n : Nat} {ls : List (Option AV)} {st : List AV} {σ : Hp} {k : Nat × Nat} : xe_X12_init ct K R (n + 1) 516 ls st σ k = (xk_X12_init ct K R n 500 ls st σ k) := exS_step.trans rfl
theorem ev_X12_init_519 {ct : Nat → Bool} {K : Kt} {R : Option AV → Hp → Prop} {n : Nat} {ls : List (Option AV)} {st : List AV} {σ : Hp} {k : Nat × Nat} : xe_X12_init ct K R (n + 1) 519 ls st σ k = (lR ls 0 fun x => xk_X12_init ct K R n 520 ls (vr x :: st) σ k) := exS_step.trans rfl
theorem ev_X12_init_520 {ct : Nat → Bool} {K : Kt} {R : Option AV → Hp → Prop} {n : Nat} {ls : List (Option AV)} {st : List AV} {σ : Hp} {k : Nat × Nat} : xe_X12_init ct K R (n + 1) 520 ls st σ k = (xk_X12_init ct K R n 521 ls (vi (3) :: st) σ k) := exS_step.trans rfl
theorem ev_X12_init_521 {ct : Nat → Bool} {K : Kt} {R : Option AV → Hp → Prop} {n : Nat} {ls : List (Option AV)} {st : List AV} {σ : Hp} {k : Nat × Nat} : xe_X12_init ct K R (n + 1) 521 ls st σ k = (oI st fun v st => oR st fun x st => kd σ x = 13 ∧ xk_X12_init ct K R n 524 ls st (pI σ 1341 x v) k) := exS_step.trans rfl
theorem ev_X12_init_524 {ct : Nat → Bool} {K : Kt} {R : Option AV → Hp → Prop} {n : Nat} {ls : List (Option AV)} {st : List AV} {σ : Hp} {k : Nat × Nat} : xe_X12_init ct K R (n + 1) 524 ls st σ k = (lR ls 0 fun x => xk_X12_init ct K R n 525 ls (vr x :: st) σ k) := exS_step.trans rfl
theorem ev_X12_init_525 {ct : Nat → Bool} {K : Kt} {R : Option AV → Hp → Prop} {n : Nat} {ls : List (Option AV)} {st : List AV} {σ : Hp} {k : Nat × Nat} : xe_X12_init ct K R (n + 1) 525 ls st σ k = (xk_X12_init ct K R n 527 ls (vi (40) :: st) σ k) := exS_step.trans rfl
theorem ev_X12_init_527 {ct : Nat → Bool} {K : Kt} {R : Option AV → Hp → Prop} {n : Nat} {ls : List (Option AV)} {st : List AV} {σ : Hp} {k : Nat × Nat} : xe_X12_init ct K R (n + 1) 527 ls st σ k = (oI st fun v st => oR st fun x st => kd σ x = 13 ∧ xk_X12_init ct K R n 530 ls st (pI σ 1342 x v) k) := exS_step.trans rfl
theorem ev_X12_init_530 {ct : Nat → Bool} {K : Kt} {R : Option AV → Hp → Prop} {n : Nat} {ls : List (Option AV)} {st : List AV} {σ : Hp} {k : Nat × Nat} : xe_X12_init ct K R (n + 1) 530 ls st σ k = (lR ls 0 fun x => xk_X12_init ct K R n 531 ls (vr x :: st) σ k) := exS_step.trans rfl
theorem ev_X12_init_531 {ct : Nat → Bool} {K : Kt} {R : Option AV → Hp → Prop} {n : Nat} {ls : List (Option AV)} {st : List AV} {σ : Hp} {k : Nat × Nat} : xe_X12_init ct K R (n + 1) 531 ls st σ k = (xk_X12_init ct K R n 532 ls (vi (-1) :: st) σ k) := exS_step.trans rfl
theorem ev_X12_init_532 {ct : Nat → Bool} {K : Kt} {R : Option AV → Hp → Prop} {n : Nat} {ls : List (Option AV)} {st : List AV} {σ : Hp} {k : Nat × Nat} : xe_X12_init ct K R (n + 1) 532 ls st σ k = (oI st fun v st => oR st fun x st => kd σ x = 13 ∧ xk_X12_init ct K R n 535 ls st (pI σ 1321 x v) k) := exS_step.trans rfl
theorem ev_X12_init_535 {ct : Nat → Bool} {K : Kt} {R : Option AV → Hp → Prop} {n : Nat} {ls : List (Option AV)} {st : List AV} {σ : Hp} {k : Nat × Nat} : xe_X12_init ct K R (n + 1) 535 ls st σ k = (st = [] ∧ 0 = 0 ∧ R none σ) := exS_step.trans rfl
def M_X12_init : Md := (yX12_init, cX12_init, 2, (none : Option FieldType), 1, 58, 32433, 0, true, tb_X12_init, mt_X12_init)
theorem mm_X12_init : MMOK M_X12_init := ⟨by decide +kernel, tk_X12_init, mk_X12_init, rfl, fun _ => rfl⟩
theorem go_X12_init {Q : Option AV → Hp → Prop} {ct : Nat → Bool} {pc : Nat} {ls : List (Option AV)} {st : List AV} {σ : Hp} {k : Nat × Nat} (n : Nat) (h : xe_X12_init ct (Go M_X12_init Q) Q n pc ls st σ k) : Go M_X12_init Q pc ls st σ k := Go.exS mm_X12_init h

set_option maxRecDepth 20000 in
theorem ini_0 {Q : Option AV → Hp → Prop} {σ : Hp} {x1 : Option AV} (hn : nx σ = 63) (hk : kd σ 62 = 13) (h : Go M_X12_init Q 12 [some (vr 62), x1] [] (mkN σ 62 iniL 1) (1, 32)) : Go M_X12_init Q 4 [some (vr 62), x1] [] (mkN σ 62 iniL 0) (0, 0) := by
  have e : mkN σ 62 iniL (0 + 1) = pR (mk (mkN σ 62 iniL 0) 101 32) 1303 62 63 := by
    show pR _ _ _ (nx σ + ((0 : Nat) : Int)) = _
    rw [hn]; rfl
  rw [e] at h
  have k1 : kd (mkN σ 62 iniL 0) 62 = 13 := (kd_mkN σ 62 iniL (by omega) 0).trans hk
  have n1 : nx (mkN σ 62 iniL 0) = 63 := by rw [nx_mkN, hn]; rfl
  generalize mkN σ 62 iniL 0 = τ at h k1 n1 ⊢
  refine go_X12_init (ct := fun p => p == 12) 12 ?_
  simp only [oI, oL, oR, o1, lI, lL, lR, popN, catS, gv, stL, stL2, swt, cnd, spObj, List.getElem?_cons_zero, List.getElem?_cons_succ, List.getD_cons_zero, List.getD_cons_succ, List.set_cons_zero, List.set_cons_succ, List.nil_append, List.cons_append, Option.toList, Bool.or_false, Bool.false_or, Bool.or_true, Bool.true_or, Nat.reduceBEq, Nat.reduceAdd, Nat.reduceLT, Nat.reduceLeDiff, Int.reduceAdd, Int.reduceToNat, true_and, and_true, Fin.isValue, Fin.val_zero, Fin.val_one, Fin.val_two, Fin.reduceFinMk, eq_self, Int.reduceNeg, imp_self, Nat.reduceMul, Nat.le_refl, not_true_eq_false, not_false_eq_true, List.getElem?_nil, reduceCtorEq, true_or, or_true, Classical.not_not, implies_true, or_self, wI_0, wI_1, wI_m1, b2i_w, b2i_eq0, b2i_eq1, b2i_bool, nor_self, nx_pI, kd_pI, ln_pI, fI_pI, fL_pI, fR_pI, aI_pI, aL_pI, aR_pI, nx_pL, kd_pL, ln_pL, fI_pL, fL_pL, fR_pL, aI_pL, aL_pL, aR_pL, nx_pR, kd_pR, ln_pR, fI_pR, fL_pR, fR_pR, aI_pR, aL_pR, aR_pR, nx_qI, kd_qI, ln_qI, fI_qI, fL_qI, fR_qI, aI_qI, aL_qI, aR_qI, nx_qL, kd_qL, ln_qL, fI_qL, fL_qL, fR_qL, aI_qL, aL_qL, aR_qL, nx_qR, kd_qR, ln_qR, fI_qR, fL_qR, fR_qR, aI_qR, aL_qR, aR_qR, nx_mk, kd_mk, ln_mk, fI_mk, fL_mk, fR_mk, aI_mk, aL_mk, aR_mk, false_and, and_false, if_false, if_true, and_self, Int.reduceEq, Nat.reduceEqDiff, ite_self, MLay_pI, MLay_pL, MLay_qI, MLay_qL, ev_X12_init_4, ev_X12_init_5, ev_X12_init_7, ev_X12_init_9, xt_X12_init, xf_X12_init, k1, n1]
  exact ⟨⟨by decide, by decide⟩, h⟩

set_option maxRecDepth 20000 in
theorem ini_1 {Q : Option AV → Hp → Prop} {σ : Hp} {x1 : Option AV} (hn : nx σ = 63) (hk : kd σ 62 = 13) (h : Go M_X12_init Q 20 [some (vr 62), x1] [] (mkN σ 62 iniL 2) (2, 64)) : Go M_X12_init Q 12 [some (vr 62), x1] [] (mkN σ 62 iniL 1) (1, 32) := by
  have e : mkN σ 62 iniL (1 + 1) = pR (mk (mkN σ 62 iniL 1) 101 32) 1304 62 64 := by
    show pR _ _ _ (nx σ + ((1 : Nat) : Int)) = _
    rw [hn]; rfl
  rw [e] at h
  have k1 : kd (mkN σ 62 iniL 1) 62 = 13 := (kd_mkN σ 62 iniL (by omega) 1).trans hk
  have n1 : nx (mkN σ 62 iniL 1) = 64 := by rw [nx_mkN, hn]; rfl
  generalize mkN σ 62 iniL 1 = τ at h k1 n1 ⊢
  refine go_X12_init (ct := fun p => p == 20) 12 ?_
  simp only [oI, oL, oR, o1, lI, lL, lR, popN, catS, gv, stL, stL2, swt, cnd, spObj, List.getElem?_cons_zero, List.getElem?_cons_succ, List.getD_cons_zero, List.getD_cons_succ, List.set_cons_zero, List.set_cons_succ, List.nil_append, List.cons_append, Option.toList, Bool.or_false, Bool.false_or, Bool.or_true, Bool.true_or, Nat.reduceBEq, Nat.reduceAdd, Nat.reduceLT, Nat.reduceLeDiff, Int.reduceAdd, Int.reduceToNat, true_and, and_true, Fin.isValue, Fin.val_zero, Fin.val_one, Fin.val_two, Fin.reduceFinMk, eq_self, Int.reduceNeg, imp_self, Nat.reduceMul, Nat.le_refl, not_true_eq_false, not_false_eq_true, List.getElem?_nil, reduceCtorEq, true_or, or_true, Classical.not_not, implies_true, or_self, wI_0, wI_1, wI_m1, b2i_w, b2i_eq0, b2i_eq1, b2i_bool, nor_self, nx_pI, kd_pI, ln_pI, fI_pI, fL_pI, fR_pI, aI_pI, aL_pI, aR_pI, nx_pL, kd_pL, ln_pL, fI_pL, fL_pL, fR_pL, aI_pL, aL_pL, aR_pL, nx_pR, kd_pR, ln_pR, fI_pR, fL_pR, fR_pR, aI_pR, aL_pR, aR_pR, nx_qI, kd_qI, ln_qI, fI_qI, fL_qI, fR_qI, aI_qI, aL_qI, aR_qI, nx_qL, kd_qL, ln_qL, fI_qL, fL_qL, fR_qL, aI_qL, aL_qL, aR_qL, nx_qR, kd_qR, ln_qR, fI_qR, fL_qR, fR_qR, aI_qR, aL_qR, aR_qR, nx_mk, kd_mk, ln_mk, fI_mk, fL_mk, fR_mk, aI_mk, aL_mk, aR_mk, false_and, and_false, if_false, if_true, and_self, Int.reduceEq, Nat.reduceEqDiff, ite_self, MLay_pI, MLay_pL, MLay_qI, MLay_qL, ev_X12_init_12, ev_X12_init_13, ev_X12_init_15, ev_X12_init_17, xt_X12_init, xf_X12_init, k1, n1]
  exact ⟨⟨by decide, by decide⟩, h⟩

set_option maxRecDepth 20000 in
theorem ini_2 {Q : Option AV → Hp → Prop} {σ : Hp} {x1 : Option AV} (hn : nx σ = 63) (hk : kd σ 62 = 13) (h : Go M_X12_init Q 28 [some (vr 62), x1] [] (mkN σ 62 iniL 3) (3, 96)) : Go M_X12_init Q 20 [some (vr 62), x1] [] (mkN σ 62 iniL 2) (2, 64) := by
  have e : mkN σ 62 iniL (2 + 1) = pR (mk (mkN σ 62 iniL 2) 101 32) 1305 62 65 := by
    show pR _ _ _ (nx σ + ((2 : Nat) : Int)) = _
    rw [hn]; rfl
  rw [e] at h
  have k1 : kd (mkN σ 62 iniL 2) 62 = 13 := (kd_mkN σ 62 iniL (by omega) 2).trans hk
  have n1 : nx (mkN σ 62 iniL 2) = 65 := by rw [nx_mkN, hn]; rfl
  generalize mkN σ 62 iniL 2 = τ at h k1 n1 ⊢
  refine go_X12_init (ct := fun p => p == 28) 12 ?_
  simp only [oI, oL, oR, o1, lI, lL, lR, popN, catS, gv, stL, stL2, swt, cnd, spObj, List.getElem?_cons_zero, List.getElem?_cons_succ, List.getD_cons_zero, List.getD_cons_succ, List.set_cons_zero, List.set_cons_succ, List.nil_append, List.cons_append, Option.toList, Bool.or_false, Bool.false_or, Bool.or_true, Bool.true_or, Nat.reduceBEq, Nat.reduceAdd, Nat.reduceLT, Nat.reduceLeDiff, Int.reduceAdd, Int.reduceToNat, true_and, and_true, Fin.isValue, Fin.val_zero, Fin.val_one, Fin.val_two, Fin.reduceFinMk, eq_self, Int.reduceNeg, imp_self, Nat.reduceMul, Nat.le_refl, not_true_eq_false, not_false_eq_true, List.getElem?_nil, reduceCtorEq, true_or, or_true, Classical.not_not, implies_true, or_self, wI_0, wI_1, wI_m1, b2i_w, b2i_eq0, b2i_eq1, b2i_bool, nor_self, nx_pI, kd_pI, ln_pI, fI_pI, fL_pI, fR_pI, aI_pI, aL_pI, aR_pI, nx_pL, kd_pL, ln_pL, fI_pL, fL_pL, fR_pL, aI_pL, aL_pL, aR_pL, nx_pR, kd_pR, ln_pR, fI_pR, fL_pR, fR_pR, aI_pR, aL_pR, aR_pR, nx_qI, kd_qI, ln_qI, fI_qI, fL_qI, fR_qI, aI_qI, aL_qI, aR_qI, nx_qL, kd_qL, ln_qL, fI_qL, fL_qL, fR_qL, aI_qL, aL_qL, aR_qL, nx_qR, kd_qR, ln_qR, fI_qR, fL_qR, fR_qR, aI_qR, aL_qR, aR_qR, nx_mk, kd_mk, ln_mk, fI_mk, fL_mk, fR_mk, aI_mk, aL_mk, aR_mk, false_and, and_false, if_false, if_true, and_self, Int.reduceEq, Nat.reduceEqDiff, ite_self, MLay_pI, MLay_pL, MLay_qI, MLay_qL, ev_X12_init_20, ev_X12_init_21, ev_X12_init_23, ev_X12_init_25, xt_X12_init, xf_X12_init, k1, n1]
  exact ⟨⟨by decide, by decide⟩, h⟩

set_option maxRecDepth 20000 in
theorem ini_3 {Q : Option AV → Hp → Prop} {σ : Hp} {x1 : Option AV} (hn : nx σ = 63) (hk : kd σ 62 = 13) (h : Go M_X12_init Q 36 [some (vr 62), x1] [] (mkN σ 62 iniL 4) (4, 128)) : Go M_X12_init Q 28 [some (vr 62), x1] [] (mkN σ 62 iniL 3) (3, 96) := by
  have e : mkN σ 62 iniL (3 + 1) = pR (mk (mkN σ 62 iniL 3) 101 32) 1306 62 66 := by
    show pR _ _ _ (nx σ + ((3 : Nat) : Int)) = _
    rw [hn]; rfl
  rw [e] at h
  have k1 : kd (mkN σ 62 iniL 3) 62 = 13 := (kd_mkN σ 62 iniL (by omega) 3).trans hk
  have n1 : nx (mkN σ 62 iniL 3) = 66 := by rw [nx_mkN, hn]; rfl
  generalize mkN σ 62 iniL 3 = τ at h k1 n1 ⊢
  refine go_X12_init (ct := fun p => p == 36) 12 ?_
  simp only [oI, oL, oR, o1, lI, lL, lR, popN, catS, gv, stL, stL2, swt, cnd, spObj, List.getElem?_cons_zero, List.getElem?_cons_succ, List.getD_cons_zero, List.getD_cons_succ, List.set_cons_zero, List.set_cons_succ, List.nil_append, List.cons_append, Option.toList, Bool.or_false, Bool.false_or, Bool.or_true, Bool.true_or, Nat.reduceBEq, Nat.reduceAdd, Nat.reduceLT, Nat.reduceLeDiff, Int.reduceAdd, Int.reduceToNat, true_and, and_true, Fin.isValue, Fin.val_zero, Fin.val_one, Fin.val_two, Fin.reduceFinMk, eq_self, Int.reduceNeg, imp_self, Nat.reduceMul, Nat.le_refl, not_true_eq_false, not_false_eq_true, List.getElem?_nil, reduceCtorEq, true_or, or_true, Classical.not_not, implies_true, or_self, wI_0, wI_1, wI_m1, b2i_w, b2i_eq0, b2i_eq1, b2i_bool, nor_self, nx_pI, kd_pI, ln_pI, fI_pI, fL_pI, fR_pI, aI_pI, aL_pI, aR_pI, nx_pL, kd_pL, ln_pL, fI_pL, fL_pL, fR_pL, aI_pL, aL_pL, aR_pL, nx_pR, kd_pR, ln_pR, fI_pR, fL_pR, fR_pR, aI_pR, aL_pR, aR_pR, nx_qI, kd_qI, ln_qI, fI_qI, fL_qI, fR_qI, aI_qI, aL_qI, aR_qI, nx_qL, kd_qL, ln_qL, fI_qL, fL_qL, fR_qL, aI_qL, aL_qL, aR_qL, nx_qR, kd_qR, ln_qR, fI_qR, fL_qR, fR_qR, aI_qR, aL_qR, aR_qR, nx_mk, kd_mk, ln_mk, fI_mk, fL_mk, fR_mk, aI_mk, aL_mk, aR_mk, false_and, and_false, if_false, if_true, and_self, Int.reduceEq, Nat.reduceEqDiff, ite_self, MLay_pI, MLay_pL, MLay_qI, MLay_qL, ev_X12_init_28, ev_X12_init_29, ev_X12_init_31, ev_X12_init_33, xt_X12_init, xf_X12_init, k1, n1]
  exact ⟨⟨by decide, by decide⟩, h⟩

set_option maxRecDepth 20000 in
theorem ini_4 {Q : Option AV → Hp → Prop} {σ : Hp} {x1 : Option AV} (hn : nx σ = 63) (hk : kd σ 62 = 13) (h : Go M_X12_init Q 44 [some (vr 62), x1] [] (mkN σ 62 iniL 5) (5, 160)) : Go M_X12_init Q 36 [some (vr 62), x1] [] (mkN σ 62 iniL 4) (4, 128) := by
  have e : mkN σ 62 iniL (4 + 1) = pR (mk (mkN σ 62 iniL 4) 101 32) 1307 62 67 := by
    show pR _ _ _ (nx σ + ((4 : Nat) : Int)) = _
    rw [hn]; rfl
  rw [e] at h
  have k1 : kd (mkN σ 62 iniL 4) 62 = 13 := (kd_mkN σ 62 iniL (by omega) 4).trans hk
  have n1 : nx (mkN σ 62 iniL 4) = 67 := by rw [nx_mkN, hn]; rfl
  generalize mkN σ 62 iniL 4 = τ at h k1 n1 ⊢
  refine go_X12_init (ct := fun p => p == 44) 12 ?_
  simp only [oI, oL, oR, o1, lI, lL, lR, popN, catS, gv, stL, stL2, swt, cnd, spObj, List.getElem?_cons_zero, List.getElem?_cons_succ, List.getD_cons_zero, List.getD_cons_succ, List.set_cons_zero, List.set_cons_succ, List.nil_append, List.cons_append, Option.toList, Bool.or_false, Bool.false_or, Bool.or_true, Bool.true_or, Nat.reduceBEq, Nat.reduceAdd, Nat.reduceLT, Nat.reduceLeDiff, Int.reduceAdd, Int.reduceToNat, true_and, and_true, Fin.isValue, Fin.val_zero, Fin.val_one, Fin.val_two, Fin.reduceFinMk, eq_self, Int.reduceNeg, imp_self, Nat.reduceMul, Nat.le_refl, not_true_eq_false, not_false_eq_true, List.getElem?_nil, reduceCtorEq, true_or, or_true, Classical.not_not, implies_true, or_self, wI_0, wI_1, wI_m1, b2i_w, b2i_eq0, b2i_eq1, b2i_bool, nor_self, nx_pI, kd_pI, ln_pI, fI_pI, fL_pI, fR_pI, aI_pI, aL_pI, aR_pI, nx_pL, kd_pL, ln_pL, fI_pL, fL_pL, fR_pL, aI_pL, aL_pL, aR_pL, nx_pR, kd_pR, ln_pR, fI_pR, fL_pR, fR_pR, aI_pR, aL_pR, aR_pR, nx_qI, kd_qI, ln_qI, fI_qI, fL_qI, fR_qI, aI_qI, aL_qI, aR_qI, nx_qL, kd_qL, ln_qL, fI_qL, fL_qL, fR_qL, aI_qL, aL_qL, aR_qL, nx_qR, kd_qR, ln_qR, fI_qR, fL_qR, fR_qR, aI_qR, aL_qR, aR_qR, nx_mk, kd_mk, ln_mk, fI_mk, fL_mk, fR_mk, aI_mk, aL_mk, aR_mk, false_and, and_false, if_false, if_true, and_self, Int.reduceEq, Nat.reduceEqDiff, ite_self, MLay_pI, MLay_pL, MLay_qI, MLay_qL, ev_X12_init_36, ev_X12_init_37, ev_X12_init_39, ev_X12_init_41, xt_X12_init, xf_X12_init, k1, n1]
  exact ⟨⟨by decide, by decide⟩, h⟩

set_option maxRecDepth 20000 in
theorem ini_5 {Q : Option AV → Hp → Prop} {σ : Hp} {x1 : Option AV} (hn : nx σ = 63) (hk : kd σ 62 = 13) (h : Go M_X12_init Q 52 [some (vr 62), x1] [] (mkN σ 62 iniL 6) (6, 192)) : Go M_X12_init Q 44 [some (vr 62), x1] [] (mkN σ 62 iniL 5) (5, 160) := by
  have e : mkN σ 62 iniL (5 + 1) = pR (mk (mkN σ 62 iniL 5) 101 32) 1308 62 68 := by
    show pR _ _ _ (nx σ + ((5 : Nat) : Int)) = _
    rw [hn]; rfl
  rw [e] at h
  have k1 : kd (mkN σ 62 iniL 5) 62 = 13 := (kd_mkN σ 62 iniL (by omega) 5).trans hk
  have n1 : nx (mkN σ 62 iniL 5) = 68 := by rw [nx_mkN, hn]; rfl
  generalize mkN σ 62 iniL 5 = τ at h k1 n1 ⊢
  refine go_X12_init (ct := fun p => p == 52) 12 ?_
  simp only [oI, oL, oR, o1, lI, lL, lR, popN, catS, gv, stL, stL2, swt, cnd, spObj, List.getElem?_cons_zero, List.getElem?_cons_succ, List.getD_cons_zero, List.getD_cons_succ, List.set_cons_zero, List.set_cons_succ, List.nil_append, List.cons_append, Option.toList, Bool.or_false, Bool.false_or, Bool.or_true, Bool.true_or, Nat.reduceBEq, Nat.reduceAdd, Nat.reduceLT, Nat.reduceLeDiff, Int.reduceAdd, Int.reduceToNat, true_and, and_true, Fin.isValue, Fin.val_zero, Fin.val_one, Fin.val_two, Fin.reduceFinMk, eq_self, Int.reduceNeg, imp_self, Nat.reduceMul, Nat.le_refl, not_true_eq_false, not_false_eq_true, List.getElem?_nil, reduceCtorEq, true_or, or_true, Classical.not_not, implies_true, or_self, wI_0, wI_1, wI_m1, b2i_w, b2i_eq0, b2i_eq1, b2i_bool, nor_self, nx_pI, kd_pI, ln_pI, fI_pI, fL_pI, fR_pI, aI_pI, aL_pI, aR_pI, nx_pL, kd_pL, ln_pL, fI_pL, fL_pL, fR_pL, aI_pL, aL_pL, aR_pL, nx_pR, kd_pR, ln_pR, fI_pR, fL_pR, fR_pR, aI_pR, aL_pR, aR_pR, nx_qI, kd_qI, ln_qI, fI_qI, fL_qI, fR_qI, aI_qI, aL_qI, aR_qI, nx_qL, kd_qL, ln_qL, fI_qL, fL_qL, fR_qL, aI_qL, aL_qL, aR_qL, nx_qR, kd_qR, ln_qR, fI_qR, fL_qR, fR_qR, aI_qR, aL_qR, aR_qR, nx_mk, kd_mk, ln_mk, fI_mk, fL_mk, fR_mk, aI_mk, aL_mk, aR_mk, false_and, and_false, if_false, if_true, and_self, Int.reduceEq, Nat.reduceEqDiff, ite_self, MLay_pI, MLay_pL, MLay_qI, MLay_qL, ev_X12_init_44, ev_X12_init_45, ev_X12_init_47, ev_X12_init_49, xt_X12_init, xf_X12_init, k1, n1]
  exact ⟨⟨by decide, by decide⟩, h⟩

set_option maxRecDepth 20000 in
theorem ini_6 {Q : Option AV → Hp → Prop} {σ : Hp} {x1 : Option AV} (hn : nx σ = 63) (hk : kd σ 62 = 13) (h : Go M_X12_init Q 60 [some (vr 62), x1] [] (mkN σ 62 iniL 7) (7, 224)) : Go M_X12_init Q 52 [some (vr 62), x1] [] (mkN σ 62 iniL 6) (6, 192) := by
  have e : mkN σ 62 iniL (6 + 1) = pR (mk (mkN σ 62 iniL 6) 101 32) 1309 62 69 := by
    show pR _ _ _ (nx σ + ((6 : Nat) : Int)) = _
    rw [hn]; rfl
  rw [e] at h
  have k1 : kd (mkN σ 62 iniL 6) 62 = 13 := (kd_mkN σ 62 iniL (by omega) 6).trans hk
  have n1 : nx (mkN σ 62 iniL 6) = 69 := by rw [nx_mkN, hn]; rfl
  generalize mkN σ 62 iniL 6 = τ at h k1 n1 ⊢
  refine go_X12_init (ct := fun p => p == 60) 12 ?_
  simp only [oI, oL, oR, o1, lI, lL, lR, popN, catS, gv, stL, stL2, swt, cnd, spObj, List.getElem?_cons_zero, List.getElem?_cons_succ, List.getD_cons_zero, List.getD_cons_succ, List.set_cons_zero, List.set_cons_succ, List.nil_append, List.cons_append, Option.toList, Bool.or_false, Bool.false_or, Bool.or_true, Bool.true_or, Nat.reduceBEq, Nat.reduceAdd, Nat.reduceLT, Nat.reduceLeDiff, Int.reduceAdd, Int.reduceToNat, true_and, and_true, Fin.isValue, Fin.val_zero, Fin.val_one, Fin.val_two, Fin.reduceFinMk, eq_self, Int.reduceNeg, imp_self, Nat.reduceMul, Nat.le_refl, not_true_eq_false, not_false_eq_true, List.getElem?_nil, reduceCtorEq, true_or, or_true, Classical.not_not, implies_true, or_self, wI_0, wI_1, wI_m1, b2i_w, b2i_eq0, b2i_eq1, b2i_bool, nor_self, nx_pI, kd_pI, ln_pI, fI_pI, fL_pI, fR_pI, aI_pI, aL_pI, aR_pI, nx_pL, kd_pL, ln_pL, fI_pL, fL_pL, fR_pL, aI_pL, aL_pL, aR_pL, nx_pR, kd_pR, ln_pR, fI_pR, fL_pR, fR_pR, aI_pR, aL_pR, aR_pR, nx_qI, kd_qI, ln_qI, fI_qI, fL_qI, fR_qI, aI_qI, aL_qI, aR_qI, nx_qL, kd_qL, ln_qL, fI_qL, fL_qL, fR_qL, aI_qL, aL_qL, aR_qL, nx_qR, kd_qR, ln_qR, fI_qR, fL_qR, fR_qR, aI_qR, aL_qR, aR_qR, nx_mk, kd_mk, ln_mk, fI_mk, fL_mk, fR_mk, aI_mk, aL_mk, aR_mk, false_and, and_false, if_false, if_true, and_self, Int.reduceEq, Nat.reduceEqDiff, ite_self, MLay_pI, MLay_pL, MLay_qI, MLay_qL, ev_X12_init_52, ev_X12_init_53, ev_X12_init_55, ev_X12_init_57, xt_X12_init, xf_X12_init, k1, n1]
  exact ⟨⟨by decide, by decide⟩, h⟩

set_option maxRecDepth 20000 in
theorem ini_7 {Q : Option AV → Hp → Prop} {σ : Hp} {x1 : Option AV} (hn : nx σ = 63) (hk : kd σ 62 = 13) (h : Go M_X12_init Q 68 [some (vr 62), x1] [] (mkN σ 62 iniL 8) (8, 256)) : Go M_X12_init Q 60 [some (vr 62), x1] [] (mkN σ 62 iniL 7) (7, 224) := by
  have e : mkN σ 62 iniL (7 + 1) = pR (mk (mkN σ 62 iniL 7) 101 32) 1310 62 70 := by
    show pR _ _ _ (nx σ + ((7 : Nat) : Int)) = _
    rw [hn]; rfl
  rw [e] at h
  have k1 : kd (mkN σ 62 iniL 7) 62 = 13 := (kd_mkN σ 62 iniL (by omega) 7).trans hk
  have n1 : nx (mkN σ 62 iniL 7) = 70 := by rw [nx_mkN, hn]; rfl
  generalize mkN σ 62 iniL 7 = τ at h k1 n1 ⊢
  refine go_X12_init (ct := fun p => p == 68) 12 ?_
  simp only [oI, oL, oR, o1, lI, lL, lR, popN, catS, gv, stL, stL2, swt, cnd, spObj, List.getElem?_cons_zero, List.getElem?_cons_succ, List.getD_cons_zero, List.getD_cons_succ, List.set_cons_zero, List.set_cons_succ, List.nil_append, List.cons_append, Option.toList, Bool.or_false, Bool.false_or, Bool.or_true, Bool.true_or, Nat.reduceBEq, Nat.reduceAdd, Nat.reduceLT, Nat.reduceLeDiff, Int.reduceAdd, Int.reduceToNat, true_and, and_true, Fin.isValue, Fin.val_zero, Fin.val_one, Fin.val_two, Fin.reduceFinMk, eq_self, Int.reduceNeg, imp_self, Nat.reduceMul, Nat.le_refl, not_true_eq_false, not_false_eq_true, List.getElem?_nil, reduceCtorEq, true_or, or_true, Classical.not_not, implies_true, or_self, wI_0, wI_1, wI_m1, b2i_w, b2i_eq0, b2i_eq1, b2i_bool, nor_self, nx_pI, kd_pI, ln_pI, fI_pI, fL_pI, fR_pI, aI_pI, aL_pI, aR_pI, nx_pL, kd_pL, ln_pL, fI_pL, fL_pL, fR_pL, aI_pL, aL_pL, aR_pL, nx_pR, kd_pR, ln_pR, fI_pR, fL_pR, fR_pR, aI_pR, aL_pR, aR_pR, nx_qI, kd_qI, ln_qI, fI_qI, fL_qI, fR_qI, aI_qI, aL_qI, aR_qI, nx_qL, kd_qL, ln_qL, fI_qL, fL_qL, fR_qL, aI_qL, aL_qL, aR_qL, nx_qR, kd_qR, ln_qR, fI_qR, fL_qR, fR_qR, aI_qR, aL_qR, aR_qR, nx_mk, kd_mk, ln_mk, fI_mk, fL_mk, fR_mk, aI_mk, aL_mk, aR_mk, false_and, and_false, if_false, if_true, and_self, Int.reduceEq, Nat.reduceEqDiff, ite_self, MLay_pI, MLay_pL, MLay_qI, MLay_qL, ev_X12_init_60, ev_X12_init_61, ev_X12_init_63, ev_X12_init_65, xt_X12_init, xf_X12_init, k1, n1]
  exact ⟨⟨by decide, by decide⟩, h⟩

set_option maxRecDepth 20000 in
theorem ini_8 {Q : Option AV → Hp → Prop} {σ : Hp} {x1 : Option AV} (hn : nx σ = 63) (hk : kd σ 62 = 13) (h : Go M_X12_init Q 76 [some (vr 62), x1] [] (mkN σ 62 iniL 9) (9, 288)) : Go M_X12_init Q 68 [some (vr 62), x1] [] (mkN σ 62 iniL 8) (8, 256) := by
  have e : mkN σ 62 iniL (8 + 1) = pR (mk (mkN σ 62 iniL 8) 103 32) 1311 62 71 := by
    show pR _ _ _ (nx σ + ((8 : Nat) : Int)) = _
    rw [hn]; rfl
  rw [e] at h
  have k1 : kd (mkN σ 62 iniL 8) 62 = 13 := (kd_mkN σ 62 iniL (by omega) 8).trans hk
  have n1 : nx (mkN σ 62 iniL 8) = 71 := by rw [nx_mkN, hn]; rfl
  generalize mkN σ 62 iniL 8 = τ at h k1 n1 ⊢
  refine go_X12_init (ct := fun p => p == 76) 12 ?_
  simp only [oI, oL, oR, o1, lI, lL, lR, popN, catS, gv, stL, stL2, swt, cnd, spObj, List.getElem?_cons_zero, List.getElem?_cons_succ, List.getD_cons_zero, List.getD_cons_succ, List.set_cons_zero, List.set_cons_succ, List.nil_append, List.cons_append, Option.toList, Bool.or_false, Bool.false_or, Bool.or_true, Bool.true_or, Nat.reduceBEq, Nat.reduceAdd, Nat.reduceLT, Nat.reduceLeDiff, Int.reduceAdd, Int.reduceToNat, true_and, and_true, Fin.isValue, Fin.val_zero, Fin.val_one, Fin.val_two, Fin.reduceFinMk, eq_self, Int.reduceNeg, imp_self, Nat.reduceMul, Nat.le_refl, not_true_eq_false, not_false_eq_true, List.getElem?_nil, reduceCtorEq, true_or, or_true, Classical.not_not, implies_true, or_self, wI_0, wI_1, wI_m1, b2i_w, b2i_eq0, b2i_eq1, b2i_bool, nor_self, nx_pI, kd_pI, ln_pI, fI_pI, fL_pI, fR_pI, aI_pI, aL_pI, aR_pI, nx_pL, kd_pL, ln_pL, fI_pL, fL_pL, fR_pL, aI_pL, aL_pL, aR_pL, nx_pR, kd_pR, ln_pR, fI_pR, fL_pR, fR_pR, aI_pR, aL_pR, aR_pR, nx_qI, kd_qI, ln_qI, fI_qI, fL_qI, fR_qI, aI_qI, aL_qI, aR_qI, nx_qL, kd_qL, ln_qL, fI_qL, fL_qL, fR_qL, aI_qL, aL_qL, aR_qL, nx_qR, kd_qR, ln_qR, fI_qR, fL_qR, fR_qR, aI_qR, aL_qR, aR_qR, nx_mk, kd_mk, ln_mk, fI_mk, fL_mk, fR_mk, aI_mk, aL_mk, aR_mk, false_and, and_false, if_false, if_true, and_self, Int.reduceEq, Nat.reduceEqDiff, ite_self, MLay_pI, MLay_pL, MLay_qI, MLay_qL, ev_X12_init_68, ev_X12_init_69, ev_X12_init_71, ev_X12_init_73, xt_X12_init, xf_X12_init, k1, n1]
  exact ⟨⟨by decide, by decide⟩, h⟩

set_option maxRecDepth 20000 in
theorem ini_9 {Q : Option AV → Hp → Prop} {σ : Hp} {x1 : Option AV} (hn : nx σ = 63) (hk : kd σ 62 = 13) (h : Go M_X12_init Q 85 [some (vr 62), x1] [] (mkN σ 62 iniL 10) (10, 768)) : Go M_X12_init Q 76 [some (vr 62), x1] [] (mkN σ 62 iniL 9) (9, 288) := by
  have e : mkN σ 62 iniL (9 + 1) = pR (mk (mkN σ 62 iniL 9) 101 480) 1312 62 72 := by
    show pR _ _ _ (nx σ + ((9 : Nat) : Int)) = _
    rw [hn]; rfl
  rw [e] at h
  have k1 : kd (mkN σ 62 iniL 9) 62 = 13 := (kd_mkN σ 62 iniL (by omega) 9).trans hk
  have n1 : nx (mkN σ 62 iniL 9) = 72 := by rw [nx_mkN, hn]; rfl
  generalize mkN σ 62 iniL 9 = τ at h k1 n1 ⊢
  refine go_X12_init (ct := fun p => p == 85) 12 ?_
  simp only [oI, oL, oR, o1, lI, lL, lR, popN, catS, gv, stL, stL2, swt, cnd, spObj, List.getElem?_cons_zero, List.getElem?_cons_succ, List.getD_cons_zero, List.getD_cons_succ, List.set_cons_zero, List.set_cons_succ, List.nil_append, List.cons_append, Option.toList, Bool.or_false, Bool.false_or, Bool.or_true, Bool.true_or, Nat.reduceBEq, Nat.reduceAdd, Nat.reduceLT, Nat.reduceLeDiff, Int.reduceAdd, Int.reduceToNat, true_and, and_true, Fin.isValue, Fin.val_zero, Fin.val_one, Fin.val_two, Fin.reduceFinMk, eq_self, Int.reduceNeg, imp_self, Nat.reduceMul, Nat.le_refl, not_true_eq_false, not_false_eq_true, List.getElem?_nil, reduceCtorEq, true_or, or_true, Classical.not_not, implies_true, or_self, wI_0, wI_1, wI_m1, b2i_w, b2i_eq0, b2i_eq1, b2i_bool, nor_self, nx_pI, kd_pI, ln_pI, fI_pI, fL_pI, fR_pI, aI_pI, aL_pI, aR_pI, nx_pL, kd_pL, ln_pL, fI_pL, fL_pL, fR_pL, aI_pL, aL_pL, aR_pL, nx_pR, kd_pR, ln_pR, fI_pR, fL_pR, fR_pR, aI_pR, aL_pR, aR_pR, nx_qI, kd_qI, ln_qI, fI_qI, fL_qI, fR_qI, aI_qI, aL_qI, aR_qI, nx_qL, kd_qL, ln_qL, fI_qL, fL_qL, fR_qL, aI_qL, aL_qL, aR_qL, nx_qR, kd_qR, ln_qR, fI_qR, fL_qR, fR_qR, aI_qR, aL_qR, aR_qR, nx_mk, kd_mk, ln_mk, fI_mk, fL_mk, fR_mk, aI_mk, aL_mk, aR_mk, false_and, and_false, if_false, if_true, and_self, Int.reduceEq, Nat.reduceEqDiff, ite_self, MLay_pI, MLay_pL, MLay_qI, MLay_qL, ev_X12_init_76, ev_X12_init_77, ev_X12_init_80, ev_X12_init_82, xt_X12_init, xf_X12_init, k1, n1]
  exact ⟨⟨by decide, by decide⟩, h⟩

set_option maxRecDepth 20000 in
theorem ini_10 {Q : Option AV → Hp → Prop} {σ : Hp} {x1 : Option AV} (hn : nx σ = 63) (hk : kd σ 62 = 13) (h : Go M_X12_init Q 93 [some (vr 62), x1] [] (mkN σ 62 iniL 11) (11, 800)) : Go M_X12_init Q 85 [some (vr 62), x1] [] (mkN σ 62 iniL 10) (10, 768) := by
  have e : mkN σ 62 iniL (10 + 1) = pR (mk (mkN σ 62 iniL 10) 101 32) 1313 62 73 := by
    show pR _ _ _ (nx σ + ((10 : Nat) : Int)) = _
    rw [hn]; rfl
  rw [e] at h
  have k1 : kd (mkN σ 62 iniL 10) 62 = 13 := (kd_mkN σ 62 iniL (by omega) 10).trans hk
  have n1 : nx (mkN σ 62 iniL 10) = 73 := by rw [nx_mkN, hn]; rfl
  generalize mkN σ 62 iniL 10 = τ at h k1 n1 ⊢
  refine go_X12_init (ct := fun p => p == 93) 12 ?_
  simp only [oI, oL, oR, o1, lI, lL, lR, popN, catS, gv, stL, stL2, swt, cnd, spObj, List.getElem?_cons_zero, List.getElem?_cons_succ, List.getD_cons_zero, List.getD_cons_succ, List.set_cons_zero, List.set_cons_succ, List.nil_append, List.cons_append, Option.toList, Bool.or_false, Bool.false_or, Bool.or_true, Bool.true_or, Nat.reduceBEq, Nat.reduceAdd, Nat.reduceLT, Nat.reduceLeDiff, Int.reduceAdd, Int.reduceToNat, true_and, and_true, Fin.isValue, Fin.val_zero, Fin.val_one, Fin.val_two, Fin.reduceFinMk, eq_self, Int.reduceNeg, imp_self, Nat.reduceMul, Nat.le_refl, not_true_eq_false, not_false_eq_true, List.getElem?_nil, reduceCtorEq, true_or, or_true, Classical.not_not, implies_true, or_self, wI_0, wI_1, wI_m1, b2i_w, b2i_eq0, b2i_eq1, b2i_bool, nor_self, nx_pI, kd_pI, ln_pI, fI_pI, fL_pI, fR_pI, aI_pI, aL_pI, aR_pI, nx_pL, kd_pL, ln_pL, fI_pL, fL_pL, fR_pL, aI_pL, aL_pL, aR_pL, nx_pR, kd_pR, ln_pR, fI_pR, fL_pR, fR_pR, aI_pR, aL_pR, aR_pR, nx_qI, kd_qI, ln_qI, fI_qI, fL_qI, fR_qI, aI_qI, aL_qI, aR_qI, nx_qL, kd_qL, ln_qL, fI_qL, fL_qL, fR_qL, aI_qL, aL_qL, aR_qL, nx_qR, kd_qR, ln_qR, fI_qR, fL_qR, fR_qR, aI_qR, aL_qR, aR_qR, nx_mk, kd_mk, ln_mk, fI_mk, fL_mk, fR_mk, aI_mk, aL_mk, aR_mk, false_and, and_false, if_false, if_true, and_self, Int.reduceEq, Nat.reduceEqDiff, ite_self, MLay_pI, MLay_pL, MLay_qI, MLay_qL, ev_X12_init_85, ev_X12_init_86, ev_X12_init_88, ev_X12_init_90, xt_X12_init, xf_X12_init, k1, n1]
  exact ⟨⟨by decide, by decide⟩, h⟩

set_option maxRecDepth 20000 in
theorem ini_11 {Q : Option AV → Hp → Prop} {σ : Hp} {x1 : Option AV} (hn : nx σ = 63) (hk : kd σ 62 = 13) (h : Go M_X12_init Q 101 [some (vr 62), x1] [] (mkN σ 62 iniL 12) (12, 832)) : Go M_X12_init Q 93 [some (vr 62), x1] [] (mkN σ 62 iniL 11) (11, 800) := by
  have e : mkN σ 62 iniL (11 + 1) = pR (mk (mkN σ 62 iniL 11) 101 32) 1314 62 74 := by
    show pR _ _ _ (nx σ + ((11 : Nat) : Int)) = _
    rw [hn]; rfl
  rw [e] at h
  have k1 : kd (mkN σ 62 iniL 11) 62 = 13 := (kd_mkN σ 62 iniL (by omega) 11).trans hk
  have n1 : nx (mkN σ 62 iniL 11) = 74 := by rw [nx_mkN, hn]; rfl
  generalize mkN σ 62 iniL 11 = τ at h k1 n1 ⊢
  refine go_X12_init (ct := fun p => p == 101) 12 ?_
  simp only [oI, oL, oR, o1, lI, lL, lR, popN, catS, gv, stL, stL2, swt, cnd, spObj, List.getElem?_cons_zero, List.getElem?_cons_succ, List.getD_cons_zero, List.getD_cons_succ, List.set_cons_zero, List.set_cons_succ, List.nil_append, List.cons_append, Option.toList, Bool.or_false, Bool.false_or, Bool.or_true, Bool.true_or, Nat.reduceBEq, Nat.reduceAdd, Nat.reduceLT, Nat.reduceLeDiff, Int.reduceAdd, Int.reduceToNat, true_and, and_true, Fin.isValue, Fin.val_zero, Fin.val_one, Fin.val_two, Fin.reduceFinMk, eq_self, Int.reduceNeg, imp_self, Nat.reduceMul, Nat.le_refl, not_true_eq_false, not_false_eq_true, List.getElem?_nil, reduceCtorEq, true_or, or_true, Classical.not_not, implies_true, or_self, wI_0, wI_1, wI_m1, b2i_w, b2i_eq0, b2i_eq1, b2i_bool, nor_self, nx_pI, kd_pI, ln_pI, fI_pI, fL_pI, fR_pI, aI_pI, aL_pI, aR_pI, nx_pL, kd_pL, ln_pL, fI_pL, fL_pL, fR_pL, aI_pL, aL_pL, aR_pL, nx_pR, kd_pR, ln_pR, fI_pR, fL_pR, fR_pR, aI_pR, aL_pR, aR_pR, nx_qI, kd_qI, ln_qI, fI_qI, fL_qI, fR_qI, aI_qI, aL_qI, aR_qI, nx_qL, kd_qL, ln_qL, fI_qL, fL_qL, fR_qL, aI_qL, aL_qL, aR_qL, nx_qR, kd_qR, ln_qR, fI_qR, fL_qR, fR_qR, aI_qR, aL_qR, aR_qR, nx_mk, kd_mk, ln_mk, fI_mk, fL_mk, fR_mk, aI_mk, aL_mk, aR_mk, false_and, and_false, if_false, if_true, and_self, Int.reduceEq, Nat.reduceEqDiff, ite_self, MLay_pI, MLay_pL, MLay_qI, MLay_qL, ev_X12_init_93, ev_X12_init_94, ev_X12_init_96, ev_X12_init_98, xt_X12_init, xf_X12_init, k1, n1]
  exact ⟨⟨by decide, by decide⟩, h⟩

set_option maxRecDepth 20000 in
theorem ini_12 {Q : Option AV → Hp → Prop} {σ : Hp} {x1 : Option AV} (hn : nx σ = 63) (hk : kd σ 62 = 13) (h : Go M_X12_init Q 108 [some (vr 62), x1] [] (mkN σ 62 iniL 13) (13, 836)) : Go M_X12_init Q 101 [some (vr 62), x1] [] (mkN σ 62 iniL 12) (12, 832) := by
  have e : mkN σ 62 iniL (12 + 1) = pR (mk (mkN σ 62 iniL 12) 101 4) 1315 62 75 := by
    show pR _ _ _ (nx σ + ((12 : Nat) : Int)) = _
    rw [hn]; rfl
  rw [e] at h
  have k1 : kd (mkN σ 62 iniL 12) 62 = 13 := (kd_mkN σ 62 iniL (by omega) 12).trans hk
  have n1 : nx (mkN σ 62 iniL 12) = 75 := by rw [nx_mkN, hn]; rfl
  generalize mkN σ 62 iniL 12 = τ at h k1 n1 ⊢
  refine go_X12_init (ct := fun p => p == 108) 12 ?_
  simp only [oI, oL, oR, o1, lI, lL, lR, popN, catS, gv, stL, stL2, swt, cnd, spObj, List.getElem?_cons_zero, List.getElem?_cons_succ, List.getD_cons_zero, List.getD_cons_succ, List.set_cons_zero, List.set_cons_succ, List.nil_append, List.cons_append, Option.toList, Bool.or_false, Bool.false_or, Bool.or_true, Bool.true_or, Nat.reduceBEq, Nat.reduceAdd, Nat.reduceLT, Nat.reduceLeDiff, Int.reduceAdd, Int.reduceToNat, true_and, and_true, Fin.isValue, Fin.val_zero, Fin.val_one, Fin.val_two, Fin.reduceFinMk, eq_self, Int.reduceNeg, imp_self, Nat.reduceMul, Nat.le_refl, not_true_eq_false, not_false_eq_true, List.getElem?_nil, reduceCtorEq, true_or, or_true, Classical.not_not, implies_true, or_self, wI_0, wI_1, wI_m1, b2i_w, b2i_eq0, b2i_eq1, b2i_bool, nor_self, nx_pI, kd_pI, ln_pI, fI_pI, fL_pI, fR_pI, aI_pI, aL_pI, aR_pI, nx_pL, kd_pL, ln_pL, fI_pL, fL_pL, fR_pL, aI_pL, aL_pL, aR_pL, nx_pR, kd_pR, ln_pR, fI_pR, fL_pR, fR_pR, aI_pR, aL_pR, aR_pR, nx_qI, kd_qI, ln_qI, fI_qI, fL_qI, fR_qI, aI_qI, aL_qI, aR_qI, nx_qL, kd_qL, ln_qL, fI_qL, fL_qL, fR_qL, aI_qL, aL_qL, aR_qL, nx_qR, kd_qR, ln_qR, fI_qR, fL_qR, fR_qR, aI_qR, aL_qR, aR_qR, nx_mk, kd_mk, ln_mk, fI_mk, fL_mk, fR_mk, aI_mk, aL_mk, aR_mk, false_and, and_false, if_false, if_true, and_self, Int.reduceEq, Nat.reduceEqDiff, ite_self, MLay_pI, MLay_pL, MLay_qI, MLay_qL, ev_X12_init_101, ev_X12_init_102, ev_X12_init_103, ev_X12_init_105, xt_X12_init, xf_X12_init, k1, n1]
  exact ⟨⟨by decide, by decide⟩, h⟩

set_option maxRecDepth 20000 in
theorem ini_13 {Q : Option AV → Hp → Prop} {σ : Hp} {x1 : Option AV} (hn : nx σ = 63) (hk : kd σ 62 = 13) (h : Go M_X12_init Q 116 [some (vr 62), x1] [] (mkN σ 62 iniL 14) (14, 884)) : Go M_X12_init Q 108 [some (vr 62), x1] [] (mkN σ 62 iniL 13) (13, 836) := by
  have e : mkN σ 62 iniL (13 + 1) = pR (mk (mkN σ 62 iniL 13) 101 48) 1316 62 76 := by
    show pR _ _ _ (nx σ + ((13 : Nat) : Int)) = _
    rw [hn]; rfl
  rw [e] at h
  have k1 : kd (mkN σ 62 iniL 13) 62 = 13 := (kd_mkN σ 62 iniL (by omega) 13).trans hk
  have n1 : nx (mkN σ 62 iniL 13) = 76 := by rw [nx_mkN, hn]; rfl
  generalize mkN σ 62 iniL 13 = τ at h k1 n1 ⊢
  refine go_X12_init (ct := fun p => p == 116) 12 ?_
  simp only [oI, oL, oR, o1, lI, lL, lR, popN, catS, gv, stL, stL2, swt, cnd, spObj, List.getElem?_cons_zero, List.getElem?_cons_succ, List.getD_cons_zero, List.getD_cons_succ, List.set_cons_zero, List.set_cons_succ, List.nil_append, List.cons_append, Option.toList, Bool.or_false, Bool.false_or, Bool.or_true, Bool.true_or, Nat.reduceBEq, Nat.reduceAdd, Nat.reduceLT, Nat.reduceLeDiff, Int.reduceAdd, Int.reduceToNat, true_and, and_true, Fin.isValue, Fin.val_zero, Fin.val_one, Fin.val_two, Fin.reduceFinMk, eq_self, Int.reduceNeg, imp_self, Nat.reduceMul, Nat.le_refl, not_true_eq_false, not_false_eq_true, List.getElem?_nil, reduceCtorEq, true_or, or_true, Classical.not_not, implies_true, or_self, wI_0, wI_1, wI_m1, b2i_w, b2i_eq0, b2i_eq1, b2i_bool, nor_self, nx_pI, kd_pI, ln_pI, fI_pI, fL_pI, fR_pI, aI_pI, aL_pI, aR_pI, nx_pL, kd_pL, ln_pL, fI_pL, fL_pL, fR_pL, aI_pL, aL_pL, aR_pL, nx_pR, kd_pR, ln_pR, fI_pR, fL_pR, fR_pR, aI_pR, aL_pR, aR_pR, nx_qI, kd_qI, ln_qI, fI_qI, fL_qI, fR_qI, aI_qI, aL_qI, aR_qI, nx_qL, kd_qL, ln_qL, fI_qL, fL_qL, fR_qL, aI_qL, aL_qL, aR_qL, nx_qR, kd_qR, ln_qR, fI_qR, fL_qR, fR_qR, aI_qR, aL_qR, aR_qR, nx_mk, kd_mk, ln_mk, fI_mk, fL_mk, fR_mk, aI_mk, aL_mk, aR_mk, false_and, and_false, if_false, if_true, and_self, Int.reduceEq, Nat.reduceEqDiff, ite_self, MLay_pI, MLay_pL, MLay_qI, MLay_qL, ev_X12_init_108, ev_X12_init_109, ev_X12_init_111, ev_X12_init_113, xt_X12_init, xf_X12_init, k1, n1]
  exact ⟨⟨by decide, by decide⟩, h⟩

set_option maxRecDepth 20000 in
theorem ini_14 {Q : Option AV → Hp → Prop} {σ : Hp} {x1 : Option AV} (hn : nx σ = 63) (hk : kd σ 62 = 13) (h : Go M_X12_init Q 124 [some (vr 62), x1] [] (mkN σ 62 iniL 15) (15, 936)) : Go M_X12_init Q 116 [some (vr 62), x1] [] (mkN σ 62 iniL 14) (14, 884) := by
  have e : mkN σ 62 iniL (14 + 1) = pR (mk (mkN σ 62 iniL 14) 103 52) 1317 62 77 := by
    show pR _ _ _ (nx σ + ((14 : Nat) : Int)) = _
    rw [hn]; rfl
  rw [e] at h
  have k1 : kd (mkN σ 62 iniL 14) 62 = 13 := (kd_mkN σ 62 iniL (by omega) 14).trans hk
  have n1 : nx (mkN σ 62 iniL 14) = 77 := by rw [nx_mkN, hn]; rfl
  generalize mkN σ 62 iniL 14 = τ at h k1 n1 ⊢
  refine go_X12_init (ct := fun p => p == 124) 12 ?_
  simp only [oI, oL, oR, o1, lI, lL, lR, popN, catS, gv, stL, stL2, swt, cnd, spObj, List.getElem?_cons_zero, List.getElem?_cons_succ, List.getD_cons_zero, List.getD_cons_succ, List.set_cons_zero, List.set_cons_succ, List.nil_append, List.cons_append, Option.toList, Bool.or_false, Bool.false_or, Bool.or_true, Bool.true_or, Nat.reduceBEq, Nat.reduceAdd, Nat.reduceLT, Nat.reduceLeDiff, Int.reduceAdd, Int.reduceToNat, true_and, and_true, Fin.isValue, Fin.val_zero, Fin.val_one, Fin.val_two, Fin.reduceFinMk, eq_self, Int.reduceNeg, imp_self, Nat.reduceMul, Nat.le_refl, not_true_eq_false, not_false_eq_true, List.getElem?_nil, reduceCtorEq, true_or, or_true, Classical.not_not, implies_true, or_self, wI_0, wI_1, wI_m1, b2i_w, b2i_eq0, b2i_eq1, b2i_bool, nor_self, nx_pI, kd_pI, ln_pI, fI_pI, fL_pI, fR_pI, aI_pI, aL_pI, aR_pI, nx_pL, kd_pL, ln_pL, fI_pL, fL_pL, fR_pL, aI_pL, aL_pL, aR_pL, nx_pR, kd_pR, ln_pR, fI_pR, fL_pR, fR_pR, aI_pR, aL_pR, aR_pR, nx_qI, kd_qI, ln_qI, fI_qI, fL_qI, fR_qI, aI_qI, aL_qI, aR_qI, nx_qL, kd_qL, ln_qL, fI_qL, fL_qL, fR_qL, aI_qL, aL_qL, aR_qL, nx_qR, kd_qR, ln_qR, fI_qR, fL_qR, fR_qR, aI_qR, aL_qR, aR_qR, nx_mk, kd_mk, ln_mk, fI_mk, fL_mk, fR_mk, aI_mk, aL_mk, aR_mk, false_and, and_false, if_false, if_true, and_self, Int.reduceEq, Nat.reduceEqDiff, ite_self, MLay_pI, MLay_pL, MLay_qI, MLay_qL, ev_X12_init_116, ev_X12_init_117, ev_X12_init_119, ev_X12_init_121, xt_X12_init, xf_X12_init, k1, n1]
  exact ⟨⟨by decide, by decide⟩, h⟩

set_option maxRecDepth 20000 in
theorem ini_15 {Q : Option AV → Hp → Prop} {σ : Hp} {x1 : Option AV} (hn : nx σ = 63) (hk : kd σ 62 = 13) (h : Go M_X12_init Q 131 [some (vr 62), x1] [] (mkN σ 62 iniL 16) (16, 940)) : Go M_X12_init Q 124 [some (vr 62), x1] [] (mkN σ 62 iniL 15) (15, 936) := by
  have e : mkN σ 62 iniL (15 + 1) = pR (mk (mkN σ 62 iniL 15) 101 4) 1318 62 78 := by
    show pR _ _ _ (nx σ + ((15 : Nat) : Int)) = _
    rw [hn]; rfl
  rw [e] at h
  have k1 : kd (mkN σ 62 iniL 15) 62 = 13 := (kd_mkN σ 62 iniL (by omega) 15).trans hk
  have n1 : nx (mkN σ 62 iniL 15) = 78 := by rw [nx_mkN, hn]; rfl
  generalize mkN σ 62 iniL 15 = τ at h k1 n1 ⊢
  refine go_X12_init (ct := fun p => p == 131) 12 ?_
  simp only [oI, oL, oR, o1, lI, lL, lR, popN, catS, gv, stL, stL2, swt, cnd, spObj, List.getElem?_cons_zero, List.getElem?_cons_succ, List.getD_cons_zero, List.getD_cons_succ, List.set_cons_zero, List.set_cons_succ, List.nil_append, List.cons_append, Option.toList, Bool.or_false, Bool.false_or, Bool.or_true, Bool.true_or, Nat.reduceBEq, Nat.reduceAdd, Nat.reduceLT, Nat.reduceLeDiff, Int.reduceAdd, Int.reduceToNat, true_and, and_true, Fin.isValue, Fin.val_zero, Fin.val_one, Fin.val_two, Fin.reduceFinMk, eq_self, Int.reduceNeg, imp_self, Nat.reduceMul, Nat.le_refl, not_true_eq_false, not_false_eq_true, List.getElem?_nil, reduceCtorEq, true_or, or_true, Classical.not_not, implies_true, or_self, wI_0, wI_1, wI_m1, b2i_w, b2i_eq0, b2i_eq1, b2i_bool, nor_self, nx_pI, kd_pI, ln_pI, fI_pI, fL_pI, fR_pI, aI_pI, aL_pI, aR_pI, nx_pL, kd_pL, ln_pL, fI_pL, fL_pL, fR_pL, aI_pL, aL_pL, aR_pL, nx_pR, kd_pR, ln_pR, fI_pR, fL_pR, fR_pR, aI_pR, aL_pR, aR_pR, nx_qI, kd_qI, ln_qI, fI_qI, fL_qI, fR_qI, aI_qI, aL_qI, aR_qI, nx_qL, kd_qL, ln_qL, fI_qL, fL_qL, fR_qL, aI_qL, aL_qL, aR_qL, nx_qR, kd_qR, ln_qR, fI_qR, fL_qR, fR_qR, aI_qR, aL_qR, aR_qR, nx_mk, kd_mk, ln_mk, fI_mk, fL_mk, fR_mk, aI_mk, aL_mk, aR_mk, false_and, and_false, if_false, if_true, and_self, Int.reduceEq, Nat.reduceEqDiff, ite_self, MLay_pI, MLay_pL, MLay_qI, MLay_qL, ev_X12_init_124, ev_X12_init_125, ev_X12_init_126, ev_X12_init_128, xt_X12_init, xf_X12_init, k1, n1]
  exact ⟨⟨by decide, by decide⟩, h⟩

set_option maxRecDepth 20000 in
theorem ini_16 {Q : Option AV → Hp → Prop} {σ : Hp} {x1 : Option AV} (hn : nx σ = 63) (hk : kd σ 62 = 13) (h : Go M_X12_init Q 138 [some (vr 62), x1] [] (mkN σ 62 iniL 17) (17, 944)) : Go M_X12_init Q 131 [some (vr 62), x1] [] (mkN σ 62 iniL 16) (16, 940) := by
  have e : mkN σ 62 iniL (16 + 1) = pR (mk (mkN σ 62 iniL 16) 101 4) 1319 62 79 := by
    show pR _ _ _ (nx σ + ((16 : Nat) : Int)) = _
    rw [hn]; rfl
  rw [e] at h
  have k1 : kd (mkN σ 62 iniL 16) 62 = 13 := (kd_mkN σ 62 iniL (by omega) 16).trans hk
  have n1 : nx (mkN σ 62 iniL 16) = 79 := by rw [nx_mkN, hn]; rfl
  generalize mkN σ 62 iniL 16 = τ at h k1 n1 ⊢
  refine go_X12_init (ct := fun p => p == 138) 12 ?_
  simp only [oI, oL, oR, o1, lI, lL, lR, popN, catS, gv, stL, stL2, swt, cnd, spObj, List.getElem?_cons_zero, List.getElem?_cons_succ, List.getD_cons_zero, List.getD_cons_succ, List.set_cons_zero, List.set_cons_succ, List.nil_append, List.cons_append, Option.toList, Bool.or_false, Bool.false_or, Bool.or_true, Bool.true_or, Nat.reduceBEq, Nat.reduceAdd, Nat.reduceLT, Nat.reduceLeDiff, Int.reduceAdd, Int.reduceToNat, true_and, and_true, Fin.isValue, Fin.val_zero, Fin.val_one, Fin.val_two, Fin.reduceFinMk, eq_self, Int.reduceNeg, imp_self, Nat.reduceMul, Nat.le_refl, not_true_eq_false, not_false_eq_true, List.getElem?_nil, reduceCtorEq, true_or, or_true, Classical.not_not, implies_true, or_self, wI_0, wI_1, wI_m1, b2i_w, b2i_eq0, b2i_eq1, b2i_bool, nor_self, nx_pI, kd_pI, ln_pI, fI_pI, fL_pI, fR_pI, aI_pI, aL_pI, aR_pI, nx_pL, kd_pL, ln_pL, fI_pL, fL_pL, fR_pL, aI_pL, aL_pL, aR_pL, nx_pR, kd_pR, ln_pR, fI_pR, fL_pR, fR_pR, aI_pR, aL_pR, aR_pR, nx_qI, kd_qI, ln_qI, fI_qI, fL_qI, fR_qI, aI_qI, aL_qI, aR_qI, nx_qL, kd_qL, ln_qL, fI_qL, fL_qL, fR_qL, aI_qL, aL_qL, aR_qL, nx_qR, kd_qR, ln_qR, fI_qR, fL_qR, fR_qR, aI_qR, aL_qR, aR_qR, nx_mk, kd_mk, ln_mk, fI_mk, fL_mk, fR_mk, aI_mk, aL_mk, aR_mk, false_and, and_false, if_false, if_true, and_self, Int.reduceEq, Nat.reduceEqDiff, ite_self, MLay_pI, MLay_pL, MLay_qI, MLay_qL, ev_X12_init_131, ev_X12_init_132, ev_X12_init_133, ev_X12_init_135, xt_X12_init, xf_X12_init, k1, n1]
  exact ⟨⟨by decide, by decide⟩, h⟩

set_option maxRecDepth 20000 in
theorem ini_17 {Q : Option AV → Hp → Prop} {σ : Hp} {x1 : Option AV} (hn : nx σ = 63) (hk : kd σ 62 = 13) (h : Go M_X12_init Q 147 [some (vr 62), x1] [] (mkN σ 62 iniL 18) (18, 2944)) : Go M_X12_init Q 138 [some (vr 62), x1] [] (mkN σ 62 iniL 17) (17, 944) := by
  have e : mkN σ 62 iniL (17 + 1) = pR (mk (mkN σ 62 iniL 17) 101 2000) 1320 62 80 := by
    show pR _ _ _ (nx σ + ((17 : Nat) : Int)) = _
    rw [hn]; rfl
  rw [e] at h
  have k1 : kd (mkN σ 62 iniL 17) 62 = 13 := (kd_mkN σ 62 iniL (by omega) 17).trans hk
  have n1 : nx (mkN σ 62 iniL 17) = 80 := by rw [nx_mkN, hn]; rfl
  generalize mkN σ 62 iniL 17 = τ at h k1 n1 ⊢
  refine go_X12_init (ct := fun p => p == 147) 12 ?_
  simp only [oI, oL, oR, o1, lI, lL, lR, popN, catS, gv, stL, stL2, swt, cnd, spObj, List.getElem?_cons_zero, List.getElem?_cons_succ, List.getD_cons_zero, List.getD_cons_succ, List.set_cons_zero, List.set_cons_succ, List.nil_append, List.cons_append, Option.toList, Bool.or_false, Bool.false_or, Bool.or_true, Bool.true_or, Nat.reduceBEq, Nat.reduceAdd, Nat.reduceLT, Nat.reduceLeDiff, Int.reduceAdd, Int.reduceToNat, true_and, and_true, Fin.isValue, Fin.val_zero, Fin.val_one, Fin.val_two, Fin.reduceFinMk, eq_self, Int.reduceNeg, imp_self, Nat.reduceMul, Nat.le_refl, not_true_eq_false, not_false_eq_true, List.getElem?_nil, reduceCtorEq, true_or, or_true, Classical.not_not, implies_true, or_self, wI_0, wI_1, wI_m1, b2i_w, b2i_eq0, b2i_eq1, b2i_bool, nor_self, nx_pI, kd_pI, ln_pI, fI_pI, fL_pI, fR_pI, aI_pI, aL_pI, aR_pI, nx_pL, kd_pL, ln_pL, fI_pL, fL_pL, fR_pL, aI_pL, aL_pL, aR_pL, nx_pR, kd_pR, ln_pR, fI_pR, fL_pR, fR_pR, aI_pR, aL_pR, aR_pR, nx_qI, kd_qI, ln_qI, fI_qI, fL_qI, fR_qI, aI_qI, aL_qI, aR_qI, nx_qL, kd_qL, ln_qL, fI_qL, fL_qL, fR_qL, aI_qL, aL_qL, aR_qL, nx_qR, kd_qR, ln_qR, fI_qR, fL_qR, fR_qR, aI_qR, aL_qR, aR_qR, nx_mk, kd_mk, ln_mk, fI_mk, fL_mk, fR_mk, aI_mk, aL_mk, aR_mk, false_and, and_false, if_false, if_true, and_self, Int.reduceEq, Nat.reduceEqDiff, ite_self, MLay_pI, MLay_pL, MLay_qI, MLay_qL, ev_X12_init_138, ev_X12_init_139, ev_X12_init_142, ev_X12_init_144, xt_X12_init, xf_X12_init, k1, n1]
  exact ⟨⟨by decide, by decide⟩, h⟩

set_option maxRecDepth 20000 in
theorem ini_18 {Q : Option AV → Hp → Prop} {σ : Hp} {x1 : Option AV} (hn : nx σ = 63) (hk : kd σ 62 = 13) (h : Go M_X12_init Q 156 [some (vr 62), x1] [] (mkN σ 62 iniL 19) (19, 3544)) : Go M_X12_init Q 147 [some (vr 62), x1] [] (mkN σ 62 iniL 18) (18, 2944) := by
  have e : mkN σ 62 iniL (18 + 1) = pR (mk (mkN σ 62 iniL 18) 101 600) 1324 62 81 := by
    show pR _ _ _ (nx σ + ((18 : Nat) : Int)) = _
    rw [hn]; rfl
  rw [e] at h
  have k1 : kd (mkN σ 62 iniL 18) 62 = 13 := (kd_mkN σ 62 iniL (by omega) 18).trans hk
  have n1 : nx (mkN σ 62 iniL 18) = 81 := by rw [nx_mkN, hn]; rfl
  generalize mkN σ 62 iniL 18 = τ at h k1 n1 ⊢
  refine go_X12_init (ct := fun p => p == 156) 12 ?_
  simp only [oI, oL, oR, o1, lI, lL, lR, popN, catS, gv, stL, stL2, swt, cnd, spObj, List.getElem?_cons_zero, List.getElem?_cons_succ, List.getD_cons_zero, List.getD_cons_succ, List.set_cons_zero, List.set_cons_succ, List.nil_append, List.cons_append, Option.toList, Bool.or_false, Bool.false_or, Bool.or_true, Bool.true_or, Nat.reduceBEq, Nat.reduceAdd, Nat.reduceLT, Nat.reduceLeDiff, Int.reduceAdd, Int.reduceToNat, true_and, and_true, Fin.isValue, Fin.val_zero, Fin.val_one, Fin.val_two, Fin.reduceFinMk, eq_self, Int.reduceNeg, imp_self, Nat.reduceMul, Nat.le_refl, not_true_eq_false, not_false_eq_true, List.getElem?_nil, reduceCtorEq, true_or, or_true, Classical.not_not, implies_true, or_self, wI_0, wI_1, wI_m1, b2i_w, b2i_eq0, b2i_eq1, b2i_bool, nor_self, nx_pI, kd_pI, ln_pI, fI_pI, fL_pI, fR_pI, aI_pI, aL_pI, aR_pI, nx_pL, kd_pL, ln_pL, fI_pL, fL_pL, fR_pL, aI_pL, aL_pL, aR_pL, nx_pR, kd_pR, ln_pR, fI_pR, fL_pR, fR_pR, aI_pR, aL_pR, aR_pR, nx_qI, kd_qI, ln_qI, fI_qI, fL_qI, fR_qI, aI_qI, aL_qI, aR_qI, nx_qL, kd_qL, ln_qL, fI_qL, fL_qL, fR_qL, aI_qL, aL_qL, aR_qL, nx_qR, kd_qR, ln_qR, fI_qR, fL_qR, fR_qR, aI_qR, aL_qR, aR_qR, nx_mk, kd_mk, ln_mk, fI_mk, fL_mk, fR_mk, aI_mk, aL_mk, aR_mk, false_and, and_false, if_false, if_true, and_self, Int.reduceEq, Nat.reduceEqDiff, ite_self, MLay_pI, MLay_pL, MLay_qI, MLay_qL, ev_X12_init_147, ev_X12_init_148, ev_X12_init_151, ev_X12_init_153, xt_X12_init, xf_X12_init, k1, n1]
  exact ⟨⟨by decide, by decide⟩, h⟩

set_option maxRecDepth 20000 in
theorem ini_19 {Q : Option AV → Hp → Prop} {σ : Hp} {x1 : Option AV} (hn : nx σ = 63) (hk : kd σ 62 = 13) (h : Go M_X12_init Q 165 [some (vr 62), x1] [] (mkN σ 62 iniL 20) (20, 4144)) : Go M_X12_init Q 156 [some (vr 62), x1] [] (mkN σ 62 iniL 19) (19, 3544) := by
  have e : mkN σ 62 iniL (19 + 1) = pR (mk (mkN σ 62 iniL 19) 101 600) 1325 62 82 := by
    show pR _ _ _ (nx σ + ((19 : Nat) : Int)) = _
    rw [hn]; rfl
  rw [e] at h
  have k1 : kd (mkN σ 62 iniL 19) 62 = 13 := (kd_mkN σ 62 iniL (by omega) 19).trans hk
  have n1 : nx (mkN σ 62 iniL 19) = 82 := by rw [nx_mkN, hn]; rfl
  generalize mkN σ 62 iniL 19 = τ at h k1 n1 ⊢
  refine go_X12_init (ct := fun p => p == 165) 12 ?_
  simp only [oI, oL, oR, o1, lI, lL, lR, popN, catS, gv, stL, stL2, swt, cnd, spObj, List.getElem?_cons_zero, List.getElem?_cons_succ, List.getD_cons_zero, List.getD_cons_succ, List.set_cons_zero, List.set_cons_succ, List.nil_append, List.cons_append, Option.toList, Bool.or_false, Bool.false_or, Bool.or_true, Bool.true_or, Nat.reduceBEq, Nat.reduceAdd, Nat.reduceLT, Nat.reduceLeDiff, Int.reduceAdd, Int.reduceToNat, true_and, and_true, Fin.isValue, Fin.val_zero, Fin.val_one, Fin.val_two, Fin.reduceFinMk, eq_self, Int.reduceNeg, imp_self, Nat.reduceMul, Nat.le_refl, not_true_eq_false, not_false_eq_true, List.getElem?_nil, reduceCtorEq, true_or, or_true, Classical.not_not, implies_true, or_self, wI_0, wI_1, wI_m1, b2i_w, b2i_eq0, b2i_eq1, b2i_bool, nor_self, nx_pI, kd_pI, ln_pI, fI_pI, fL_pI, fR_pI, aI_pI, aL_pI, aR_pI, nx_pL, kd_pL, ln_pL, fI_pL, fL_pL, fR_pL, aI_pL, aL_pL, aR_pL, nx_pR, kd_pR, ln_pR, fI_pR, fL_pR, fR_pR, aI_pR, aL_pR, aR_pR, nx_qI, kd_qI, ln_qI, fI_qI, fL_qI, fR_qI, aI_qI, aL_qI, aR_qI, nx_qL, kd_qL, ln_qL, fI_qL, fL_qL, fR_qL, aI_qL, aL_qL, aR_qL, nx_qR, kd_qR, ln_qR, fI_qR, fL_qR, fR_qR, aI_qR, aL_qR, aR_qR, nx_mk, kd_mk, ln_mk, fI_mk, fL_mk, fR_mk, aI_mk, aL_mk, aR_mk, false_and, and_false, if_false, if_true, and_self, Int.reduceEq, Nat.reduceEqDiff, ite_self, MLay_pI, MLay_pL, MLay_qI, MLay_qL, ev_X12_init_156, ev_X12_init_157, ev_X12_init_160, ev_X12_init_162, xt_X12_init, xf_X12_init, k1, n1]
  exact ⟨⟨by decide, by decide⟩, h⟩

set_option maxRecDepth 20000 in
theorem ini_20 {Q : Option AV → Hp → Prop} {σ : Hp} {x1 : Option AV} (hn : nx σ = 63) (hk : kd σ 62 = 13) (h : Go M_X12_init Q 174 [some (vr 62), x1] [] (mkN σ 62 iniL 21) (21, 7744)) : Go M_X12_init Q 165 [some (vr 62), x1] [] (mkN σ 62 iniL 20) (20, 4144) := by
  have e : mkN σ 62 iniL (20 + 1) = pR (mk (mkN σ 62 iniL 20) 103 3600) 1326 62 83 := by
    show pR _ _ _ (nx σ + ((20 : Nat) : Int)) = _
    rw [hn]; rfl
  rw [e] at h
  have k1 : kd (mkN σ 62 iniL 20) 62 = 13 := (kd_mkN σ 62 iniL (by omega) 20).trans hk
  have n1 : nx (mkN σ 62 iniL 20) = 83 := by rw [nx_mkN, hn]; rfl
  generalize mkN σ 62 iniL 20 = τ at h k1 n1 ⊢
  refine go_X12_init (ct := fun p => p == 174) 12 ?_
  simp only [oI, oL, oR, o1, lI, lL, lR, popN, catS, gv, stL, stL2, swt, cnd, spObj, List.getElem?_cons_zero, List.getElem?_cons_succ, List.getD_cons_zero, List.getD_cons_succ, List.set_cons_zero, List.set_cons_succ, List.nil_append, List.cons_append, Option.toList, Bool.or_false, Bool.false_or, Bool.or_true, Bool.true_or, Nat.reduceBEq, Nat.reduceAdd, Nat.reduceLT, Nat.reduceLeDiff, Int.reduceAdd, Int.reduceToNat, true_and, and_true, Fin.isValue, Fin.val_zero, Fin.val_one, Fin.val_two, Fin.reduceFinMk, eq_self, Int.reduceNeg, imp_self, Nat.reduceMul, Nat.le_refl, not_true_eq_false, not_false_eq_true, List.getElem?_nil, reduceCtorEq, true_or, or_true, Classical.not_not, implies_true, or_self, wI_0, wI_1, wI_m1, b2i_w, b2i_eq0, b2i_eq1, b2i_bool, nor_self, nx_pI, kd_pI, ln_pI, fI_pI, fL_pI, fR_pI, aI_pI, aL_pI, aR_pI, nx_pL, kd_pL, ln_pL, fI_pL, fL_pL, fR_pL, aI_pL, aL_pL, aR_pL, nx_pR, kd_pR, ln_pR, fI_pR, fL_pR, fR_pR, aI_pR, aL_pR, aR_pR, nx_qI, kd_qI, ln_qI, fI_qI, fL_qI, fR_qI, aI_qI, aL_qI, aR_qI, nx_qL, kd_qL, ln_qL, fI_qL, fL_qL, fR_qL, aI_qL, aL_qL, aR_qL, nx_qR, kd_qR, ln_qR, fI_qR, fL_qR, fR_qR, aI_qR, aL_qR, aR_qR, nx_mk, kd_mk, ln_mk, fI_mk, fL_mk, fR_mk, aI_mk, aL_mk, aR_mk, false_and, and_false, if_false, if_true, and_self, Int.reduceEq, Nat.reduceEqDiff, ite_self, MLay_pI, MLay_pL, MLay_qI, MLay_qL, ev_X12_init_165, ev_X12_init_166, ev_X12_init_169, ev_X12_init_171, xt_X12_init, xf_X12_init, k1, n1]
  exact ⟨⟨by decide, by decide⟩, h⟩

set_option maxRecDepth 20000 in
theorem ini_21 {Q : Option AV → Hp → Prop} {σ : Hp} {x1 : Option AV} (hn : nx σ = 63) (hk : kd σ 62 = 13) (h : Go M_X12_init Q 183 [some (vr 62), x1] [] (mkN σ 62 iniL 22) (22, 25744)) : Go M_X12_init Q 174 [some (vr 62), x1] [] (mkN σ 62 iniL 21) (21, 7744) := by
  have e : mkN σ 62 iniL (21 + 1) = pR (mk (mkN σ 62 iniL 21) 102 18000) 1327 62 84 := by
    show pR _ _ _ (nx σ + ((21 : Nat) : Int)) = _
    rw [hn]; rfl
  rw [e] at h
  have k1 : kd (mkN σ 62 iniL 21) 62 = 13 := (kd_mkN σ 62 iniL (by omega) 21).trans hk
  have n1 : nx (mkN σ 62 iniL 21) = 84 := by rw [nx_mkN, hn]; rfl
  generalize mkN σ 62 iniL 21 = τ at h k1 n1 ⊢
  refine go_X12_init (ct := fun p => p == 183) 12 ?_
  simp only [oI, oL, oR, o1, lI, lL, lR, popN, catS, gv, stL, stL2, swt, cnd, spObj, List.getElem?_cons_zero, List.getElem?_cons_succ, List.getD_cons_zero, List.getD_cons_succ, List.set_cons_zero, List.set_cons_succ, List.nil_append, List.cons_append, Option.toList, Bool.or_false, Bool.false_or, Bool.or_true, Bool.true_or, Nat.reduceBEq, Nat.reduceAdd, Nat.reduceLT, Nat.reduceLeDiff, Int.reduceAdd, Int.reduceToNat, true_and, and_true, Fin.isValue, Fin.val_zero, Fin.val_one, Fin.val_two, Fin.reduceFinMk, eq_self, Int.reduceNeg, imp_self, Nat.reduceMul, Nat.le_refl, not_true_eq_false, not_false_eq_true, List.getElem?_nil, reduceCtorEq, true_or, or_true, Classical.not_not, implies_true, or_self, wI_0, wI_1, wI_m1, b2i_w, b2i_eq0, b2i_eq1, b2i_bool, nor_self, nx_pI, kd_pI, ln_pI, fI_pI, fL_pI, fR_pI, aI_pI, aL_pI, aR_pI, nx_pL, kd_pL, ln_pL, fI_pL, fL_pL, fR_pL, aI_pL, aL_pL, aR_pL, nx_pR, kd_pR, ln_pR, fI_pR, fL_pR, fR_pR, aI_pR, aL_pR, aR_pR, nx_qI, kd_qI, ln_qI, fI_qI, fL_qI, fR_qI, aI_qI, aL_qI, aR_qI, nx_qL, kd_qL, ln_qL, fI_qL, fL_qL, fR_qL, aI_qL, aL_qL, aR_qL, nx_qR, kd_qR, ln_qR, fI_qR, fL_qR, fR_qR, aI_qR, aL_qR, aR_qR, nx_mk, kd_mk, ln_mk, fI_mk, fL_mk, fR_mk, aI_mk, aL_mk, aR_mk, false_and, and_false, if_false, if_true, and_self, Int.reduceEq, Nat.reduceEqDiff, ite_self, MLay_pI, MLay_pL, MLay_qI, MLay_qL, ev_X12_init_174, ev_X12_init_175, ev_X12_init_178, ev_X12_init_180, xt_X12_init, xf_X12_init, k1, n1]
  exact ⟨⟨by decide, by decide⟩, h⟩

set_option maxRecDepth 20000 in
theorem ini_22 {Q : Option AV → Hp → Prop} {σ : Hp} {x1 : Option AV} (hn : nx σ = 63) (hk : kd σ 62 = 13) (h : Go M_X12_init Q 190 [some (vr 62), x1] [] (mkN σ 62 iniL 23) (23, 25749)) : Go M_X12_init Q 183 [some (vr 62), x1] [] (mkN σ 62 iniL 22) (22, 25744) := by
  have e : mkN σ 62 iniL (22 + 1) = pR (mk (mkN σ 62 iniL 22) 102 5) 1328 62 85 := by
    show pR _ _ _ (nx σ + ((22 : Nat) : Int)) = _
    rw [hn]; rfl
  rw [e] at h
  have k1 : kd (mkN σ 62 iniL 22) 62 = 13 := (kd_mkN σ 62 iniL (by omega) 22).trans hk
  have n1 : nx (mkN σ 62 iniL 22) = 85 := by rw [nx_mkN, hn]; rfl
  generalize mkN σ 62 iniL 22 = τ at h k1 n1 ⊢
  refine go_X12_init (ct := fun p => p == 190) 12 ?_
  simp only [oI, oL, oR, o1, lI, lL, lR, popN, catS, gv, stL, stL2, swt, cnd, spObj, List.getElem?_cons_zero, List.getElem?_cons_succ, List.getD_cons_zero, List.getD_cons_succ, List.set_cons_zero, List.set_cons_succ, List.nil_append, List.cons_append, Option.toList, Bool.or_false, Bool.false_or, Bool.or_true, Bool.true_or, Nat.reduceBEq, Nat.reduceAdd, Nat.reduceLT, Nat.reduceLeDiff, Int.reduceAdd, Int.reduceToNat, true_and, and_true, Fin.isValue, Fin.val_zero, Fin.val_one, Fin.val_two, Fin.reduceFinMk, eq_self, Int.reduceNeg, imp_self, Nat.reduceMul, Nat.le_refl, not_true_eq_false, not_false_eq_true, List.getElem?_nil, reduceCtorEq, true_or, or_true, Classical.not_not, implies_true, or_self, wI_0, wI_1, wI_m1, b2i_w, b2i_eq0, b2i_eq1, b2i_bool, nor_self, nx_pI, kd_pI, ln_pI, fI_pI, fL_pI, fR_pI, aI_pI, aL_pI, aR_pI, nx_pL, kd_pL, ln_pL, fI_pL, fL_pL, fR_pL, aI_pL, aL_pL, aR_pL, nx_pR, kd_pR, ln_pR, fI_pR, fL_pR, fR_pR, aI_pR, aL_pR, aR_pR, nx_qI, kd_qI, ln_qI, fI_qI, fL_qI, fR_qI, aI_qI, aL_qI, aR_qI, nx_qL, kd_qL, ln_qL, fI_qL, fL_qL, fR_qL, aI_qL, aL_qL, aR_qL, nx_qR, kd_qR, ln_qR, fI_qR, fL_qR, fR_qR, aI_qR, aL_qR, aR_qR, nx_mk, kd_mk, ln_mk, fI_mk, fL_mk, fR_mk, aI_mk, aL_mk, aR_mk, false_and, and_false, if_false, if_true, and_self, Int.reduceEq, Nat.reduceEqDiff, ite_self, MLay_pI, MLay_pL, MLay_qI, MLay_qL, ev_X12_init_183, ev_X12_init_184, ev_X12_init_185, ev_X12_init_187, xt_X12_init, xf_X12_init, k1, n1]
  exact ⟨⟨by decide, by decide⟩, h⟩

set_option maxRecDepth 20000 in
theorem ini_23 {Q : Option AV → Hp → Prop} {σ : Hp} {x1 : Option AV} (hn : nx σ = 63) (hk : kd σ 62 = 13) (h : Go M_X12_init Q 198 [some (vr 62), x1] [] (mkN σ 62 iniL 24) (24, 25761)) : Go M_X12_init Q 190 [some (vr 62), x1] [] (mkN σ 62 iniL 23) (23, 25749) := by
  have e : mkN σ 62 iniL (23 + 1) = pR (mk (mkN σ 62 iniL 23) 101 12) 1333 62 86 := by
    show pR _ _ _ (nx σ + ((23 : Nat) : Int)) = _
    rw [hn]; rfl
  rw [e] at h
  have k1 : kd (mkN σ 62 iniL 23) 62 = 13 := (kd_mkN σ 62 iniL (by omega) 23).trans hk
  have n1 : nx (mkN σ 62 iniL 23) = 86 := by rw [nx_mkN, hn]; rfl
  generalize mkN σ 62 iniL 23 = τ at h k1 n1 ⊢
  refine go_X12_init (ct := fun p => p == 198) 12 ?_
  simp only [oI, oL, oR, o1, lI, lL, lR, popN, catS, gv, stL, stL2, swt, cnd, spObj, List.getElem?_cons_zero, List.getElem?_cons_succ, List.getD_cons_zero, List.getD_cons_succ, List.set_cons_zero, List.set_cons_succ, List.nil_append, List.cons_append, Option.toList, Bool.or_false, Bool.false_or, Bool.or_true, Bool.true_or, Nat.reduceBEq, Nat.reduceAdd, Nat.reduceLT, Nat.reduceLeDiff, Int.reduceAdd, Int.reduceToNat, true_and, and_true, Fin.isValue, Fin.val_zero, Fin.val_one, Fin.val_two, Fin.reduceFinMk, eq_self, Int.reduceNeg, imp_self, Nat.reduceMul, Nat.le_refl, not_true_eq_false, not_false_eq_true, List.getElem?_nil, reduceCtorEq, true_or, or_true, Classical.not_not, implies_true, or_self, wI_0, wI_1, wI_m1, b2i_w, b2i_eq0, b2i_eq1, b2i_bool, nor_self, nx_pI, kd_pI, ln_pI, fI_pI, fL_pI, fR_pI, aI_pI, aL_pI, aR_pI, nx_pL, kd_pL, ln_pL, fI_pL, fL_pL, fR_pL, aI_pL, aL_pL, aR_pL, nx_pR, kd_pR, ln_pR, fI_pR, fL_pR, fR_pR, aI_pR, aL_pR, aR_pR, nx_qI, kd_qI, ln_qI, fI_qI, fL_qI, fR_qI, aI_qI, aL_qI, aR_qI, nx_qL, kd_qL, ln_qL, fI_qL, fL_qL, fR_qL, aI_qL, aL_qL, aR_qL, nx_qR, kd_qR, ln_qR, fI_qR, fL_qR, fR_qR, aI_qR, aL_qR, aR_qR, nx_mk, kd_mk, ln_mk, fI_mk, fL_mk, fR_mk, aI_mk, aL_mk, aR_mk, false_and, and_false, if_false, if_true, and_self, Int.reduceEq, Nat.reduceEqDiff, ite_self, MLay_pI, MLay_pL, MLay_qI, MLay_qL, ev_X12_init_190, ev_X12_init_191, ev_X12_init_193, ev_X12_init_195, xt_X12_init, xf_X12_init, k1, n1]
  exact ⟨⟨by decide, by decide⟩, h⟩

set_option maxRecDepth 20000 in
theorem ini_24 {Q : Option AV → Hp → Prop} {σ : Hp} {x1 : Option AV} (hn : nx σ = 63) (hk : kd σ 62 = 13) (h : Go M_X12_init Q 206 [some (vr 62), x1] [] (mkN σ 62 iniL 25) (25, 25773)) : Go M_X12_init Q 198 [some (vr 62), x1] [] (mkN σ 62 iniL 24) (24, 25761) := by
  have e : mkN σ 62 iniL (24 + 1) = pR (mk (mkN σ 62 iniL 24) 101 12) 1334 62 87 := by
    show pR _ _ _ (nx σ + ((24 : Nat) : Int)) = _
    rw [hn]; rfl
  rw [e] at h
  have k1 : kd (mkN σ 62 iniL 24) 62 = 13 := (kd_mkN σ 62 iniL (by omega) 24).trans hk
  have n1 : nx (mkN σ 62 iniL 24) = 87 := by rw [nx_mkN, hn]; rfl
  generalize mkN σ 62 iniL 24 = τ at h k1 n1 ⊢
  refine go_X12_init (ct := fun p => p == 206) 12 ?_
  simp only [oI, oL, oR, o1, lI, lL, lR, popN, catS, gv, stL, stL2, swt, cnd, spObj, List.getElem?_cons_zero, List.getElem?_cons_succ, List.getD_cons_zero, List.getD_cons_succ, List.set_cons_zero, List.set_cons_succ, List.nil_append, List.cons_append, Option.toList, Bool.or_false, Bool.false_or, Bool.or_true, Bool.true_or, Nat.reduceBEq, Nat.reduceAdd, Nat.reduceLT, Nat.reduceLeDiff, Int.reduceAdd, Int.reduceToNat, true_and, and_true, Fin.isValue, Fin.val_zero, Fin.val_one, Fin.val_two, Fin.reduceFinMk, eq_self, Int.reduceNeg, imp_self, Nat.reduceMul, Nat.le_refl, not_true_eq_false, not_false_eq_true, List.getElem?_nil, reduceCtorEq, true_or, or_true, Classical.not_not, implies_true, or_self, wI_0, wI_1, wI_m1, b2i_w, b2i_eq0, b2i_eq1, b2i_bool, nor_self, nx_pI, kd_pI, ln_pI, fI_pI, fL_pI, fR_pI, aI_pI, aL_pI, aR_pI, nx_pL, kd_pL, ln_pL, fI_pL, fL_pL, fR_pL, aI_pL, aL_pL, aR_pL, nx_pR, kd_pR, ln_pR, fI_pR, fL_pR, fR_pR, aI_pR, aL_pR, aR_pR, nx_qI, kd_qI, ln_qI, fI_qI, fL_qI, fR_qI, aI_qI, aL_qI, aR_qI, nx_qL, kd_qL, ln_qL, fI_qL, fL_qL, fR_qL, aI_qL, aL_qL, aR_qL, nx_qR, kd_qR, ln_qR, fI_qR, fL_qR, fR_qR, aI_qR, aL_qR, aR_qR, nx_mk, kd_mk, ln_mk, fI_mk, fL_mk, fR_mk, aI_mk, aL_mk, aR_mk, false_and, and_false, if_false, if_true, and_self, Int.reduceEq, Nat.reduceEqDiff, ite_self, MLay_pI, MLay_pL, MLay_qI, MLay_qL, ev_X12_init_198, ev_X12_init_199, ev_X12_init_201, ev_X12_init_203, xt_X12_init, xf_X12_init, k1, n1]
  exact ⟨⟨by decide, by decide⟩, h⟩

set_option maxRecDepth 20000 in
theorem ini_25 {Q : Option AV → Hp → Prop} {σ : Hp} {x1 : Option AV} (hn : nx σ = 63) (hk : kd σ 62 = 13) (h : Go M_X12_init Q 214 [some (vr 62), x1] [] (mkN σ 62 iniL 26) (26, 25793)) : Go M_X12_init Q 206 [some (vr 62), x1] [] (mkN σ 62 iniL 25) (25, 25773) := by
  have e : mkN σ 62 iniL (25 + 1) = pR (mk (mkN σ 62 iniL 25) 101 20) 1336 62 88 := by
    show pR _ _ _ (nx σ + ((25 : Nat) : Int)) = _
    rw [hn]; rfl
  rw [e] at h
  have k1 : kd (mkN σ 62 iniL 25) 62 = 13 := (kd_mkN σ 62 iniL (by omega) 25).trans hk
  have n1 : nx (mkN σ 62 iniL 25) = 88 := by rw [nx_mkN, hn]; rfl
  generalize mkN σ 62 iniL 25 = τ at h k1 n1 ⊢
  refine go_X12_init (ct := fun p => p == 214) 12 ?_
  simp only [oI, oL, oR, o1, lI, lL, lR, popN, catS, gv, stL, stL2, swt, cnd, spObj, List.getElem?_cons_zero, List.getElem?_cons_succ, List.getD_cons_zero, List.getD_cons_succ, List.set_cons_zero, List.set_cons_succ, List.nil_append, List.cons_append, Option.toList, Bool.or_false, Bool.false_or, Bool.or_true, Bool.true_or, Nat.reduceBEq, Nat.reduceAdd, Nat.reduceLT, Nat.reduceLeDiff, Int.reduceAdd, Int.reduceToNat, true_and, and_true, Fin.isValue, Fin.val_zero, Fin.val_one, Fin.val_two, Fin.reduceFinMk, eq_self, Int.reduceNeg, imp_self, Nat.reduceMul, Nat.le_refl, not_true_eq_false, not_false_eq_true, List.getElem?_nil, reduceCtorEq, true_or, or_true, Classical.not_not, implies_true, or_self, wI_0, wI_1, wI_m1, b2i_w, b2i_eq0, b2i_eq1, b2i_bool, nor_self, nx_pI, kd_pI, ln_pI, fI_pI, fL_pI, fR_pI, aI_pI, aL_pI, aR_pI, nx_pL, kd_pL, ln_pL, fI_pL, fL_pL, fR_pL, aI_pL, aL_pL, aR_pL, nx_pR, kd_pR, ln_pR, fI_pR, fL_pR, fR_pR, aI_pR, aL_pR, aR_pR, nx_qI, kd_qI, ln_qI, fI_qI, fL_qI, fR_qI, aI_qI, aL_qI, aR_qI, nx_qL, kd_qL, ln_qL, fI_qL, fL_qL, fR_qL, aI_qL, aL_qL, aR_qL, nx_qR, kd_qR, ln_qR, fI_qR, fL_qR, fR_qR, aI_qR, aL_qR, aR_qR, nx_mk, kd_mk, ln_mk, fI_mk, fL_mk, fR_mk, aI_mk, aL_mk, aR_mk, false_and, and_false, if_false, if_true, and_self, Int.reduceEq, Nat.reduceEqDiff, ite_self, MLay_pI, MLay_pL, MLay_qI, MLay_qL, ev_X12_init_206, ev_X12_init_207, ev_X12_init_209, ev_X12_init_211, xt_X12_init, xf_X12_init, k1, n1]
  exact ⟨⟨by decide, by decide⟩, h⟩

set_option maxRecDepth 20000 in
theorem ini_26 {Q : Option AV → Hp → Prop} {σ : Hp} {x1 : Option AV} (hn : nx σ = 63) (hk : kd σ 62 = 13) (h : Go M_X12_init Q 222 [some (vr 62), x1] [] (mkN σ 62 iniL 27) (27, 25813)) : Go M_X12_init Q 214 [some (vr 62), x1] [] (mkN σ 62 iniL 26) (26, 25793) := by
  have e : mkN σ 62 iniL (26 + 1) = pR (mk (mkN σ 62 iniL 26) 101 20) 1337 62 89 := by
    show pR _ _ _ (nx σ + ((26 : Nat) : Int)) = _
    rw [hn]; rfl
  rw [e] at h
  have k1 : kd (mkN σ 62 iniL 26) 62 = 13 := (kd_mkN σ 62 iniL (by omega) 26).trans hk
  have n1 : nx (mkN σ 62 iniL 26) = 89 := by rw [nx_mkN, hn]; rfl
  generalize mkN σ 62 iniL 26 = τ at h k1 n1 ⊢
  refine go_X12_init (ct := fun p => p == 222) 12 ?_
  simp only [oI, oL, oR, o1, lI, lL, lR, popN, catS, gv, stL, stL2, swt, cnd, spObj, List.getElem?_cons_zero, List.getElem?_cons_succ, List.getD_cons_zero, List.getD_cons_succ, List.set_cons_zero, List.set_cons_succ, List.nil_append, List.cons_append, Option.toList, Bool.or_false, Bool.false_or, Bool.or_true, Bool.true_or, Nat.reduceBEq, Nat.reduceAdd, Nat.reduceLT, Nat.reduceLeDiff, Int.reduceAdd, Int.reduceToNat, true_and, and_true, Fin.isValue, Fin.val_zero, Fin.val_one, Fin.val_two, Fin.reduceFinMk, eq_self, Int.reduceNeg, imp_self, Nat.reduceMul, Nat.le_refl, not_true_eq_false, not_false_eq_true, List.getElem?_nil, reduceCtorEq, true_or, or_true, Classical.not_not, implies_true, or_self, wI_0, wI_1, wI_m1, b2i_w, b2i_eq0, b2i_eq1, b2i_bool, nor_self, nx_pI, kd_pI, ln_pI, fI_pI, fL_pI, fR_pI, aI_pI, aL_pI, aR_pI, nx_pL, kd_pL, ln_pL, fI_pL, fL_pL, fR_pL, aI_pL, aL_pL, aR_pL, nx_pR, kd_pR, ln_pR, fI_pR, fL_pR, fR_pR, aI_pR, aL_pR, aR_pR, nx_qI, kd_qI, ln_qI, fI_qI, fL_qI, fR_qI, aI_qI, aL_qI, aR_qI, nx_qL, kd_qL, ln_qL, fI_qL, fL_qL, fR_qL, aI_qL, aL_qL, aR_qL, nx_qR, kd_qR, ln_qR, fI_qR, fL_qR, fR_qR, aI_qR, aL_qR, aR_qR, nx_mk, kd_mk, ln_mk, fI_mk, fL_mk, fR_mk, aI_mk, aL_mk, aR_mk, false_and, and_false, if_false, if_true, and_self, Int.reduceEq, Nat.reduceEqDiff, ite_self, MLay_pI, MLay_pL, MLay_qI, MLay_qL, ev_X12_init_214, ev_X12_init_215, ev_X12_init_217, ev_X12_init_219, xt_X12_init, xf_X12_init, k1, n1]
  exact ⟨⟨by decide, by decide⟩, h⟩

set_option maxRecDepth 20000 in
theorem ini_27 {Q : Option AV → Hp → Prop} {σ : Hp} {x1 : Option AV} (hn : nx σ = 63) (hk : kd σ 62 = 13) (h : Go M_X12_init Q 230 [some (vr 62), x1] [] (mkN σ 62 iniL 28) (28, 25833)) : Go M_X12_init Q 222 [some (vr 62), x1] [] (mkN σ 62 iniL 27) (27, 25813) := by
  have e : mkN σ 62 iniL (27 + 1) = pR (mk (mkN σ 62 iniL 27) 101 20) 1338 62 90 := by
    show pR _ _ _ (nx σ + ((27 : Nat) : Int)) = _
    rw [hn]; rfl
  rw [e] at h
  have k1 : kd (mkN σ 62 iniL 27) 62 = 13 := (kd_mkN σ 62 iniL (by omega) 27).trans hk
  have n1 : nx (mkN σ 62 iniL 27) = 90 := by rw [nx_mkN, hn]; rfl
  generalize mkN σ 62 iniL 27 = τ at h k1 n1 ⊢
  refine go_X12_init (ct := fun p => p == 230) 12 ?_
  simp only [oI, oL, oR, o1, lI, lL, lR, popN, catS, gv, stL, stL2, swt, cnd, spObj, List.getElem?_cons_zero, List.getElem?_cons_succ, List.getD_cons_zero, List.getD_cons_succ, List.set_cons_zero, List.set_cons_succ, List.nil_append, List.cons_append, Option.toList, Bool.or_false, Bool.false_or, Bool.or_true, Bool.true_or, Nat.reduceBEq, Nat.reduceAdd, Nat.reduceLT, Nat.reduceLeDiff, Int.reduceAdd, Int.reduceToNat, true_and, and_true, Fin.isValue, Fin.val_zero, Fin.val_one, Fin.val_two, Fin.reduceFinMk, eq_self, Int.reduceNeg, imp_self, Nat.reduceMul, Nat.le_refl, not_true_eq_false, not_false_eq_true, List.getElem?_nil, reduceCtorEq, true_or, or_true, Classical.not_not, implies_true, or_self, wI_0, wI_1, wI_m1, b2i_w, b2i_eq0, b2i_eq1, b2i_bool, nor_self, nx_pI, kd_pI, ln_pI, fI_pI, fL_pI, fR_pI, aI_pI, aL_pI, aR_pI, nx_pL, kd_pL, ln_pL, fI_pL, fL_pL, fR_pL, aI_pL, aL_pL, aR_pL, nx_pR, kd_pR, ln_pR, fI_pR, fL_pR, fR_pR, aI_pR, aL_pR, aR_pR, nx_qI, kd_qI, ln_qI, fI_qI, fL_qI, fR_qI, aI_qI, aL_qI, aR_qI, nx_qL, kd_qL, ln_qL, fI_qL, fL_qL, fR_qL, aI_qL, aL_qL, aR_qL, nx_qR, kd_qR, ln_qR, fI_qR, fL_qR, fR_qR, aI_qR, aL_qR, aR_qR, nx_mk, kd_mk, ln_mk, fI_mk, fL_mk, fR_mk, aI_mk, aL_mk, aR_mk, false_and, and_false, if_false, if_true, and_self, Int.reduceEq, Nat.reduceEqDiff, ite_self, MLay_pI, MLay_pL, MLay_qI, MLay_qL, ev_X12_init_222, ev_X12_init_223, ev_X12_init_225, ev_X12_init_227, xt_X12_init, xf_X12_init, k1, n1]
  exact ⟨⟨by decide, by decide⟩, h⟩

set_option maxRecDepth 20000 in
theorem ini_28 {Q : Option AV → Hp → Prop} {σ : Hp} {x1 : Option AV} (hn : nx σ = 63) (hk : kd σ 62 = 13) (h : Go M_X12_init Q 238 [some (vr 62), x1] [] (mkN σ 62 iniL 29) (29, 25853)) : Go M_X12_init Q 230 [some (vr 62), x1] [] (mkN σ 62 iniL 28) (28, 25833) := by
  have e : mkN σ 62 iniL (28 + 1) = pR (mk (mkN σ 62 iniL 28) 101 20) 1339 62 91 := by
    show pR _ _ _ (nx σ + ((28 : Nat) : Int)) = _
    rw [hn]; rfl
  rw [e] at h
  have k1 : kd (mkN σ 62 iniL 28) 62 = 13 := (kd_mkN σ 62 iniL (by omega) 28).trans hk
  have n1 : nx (mkN σ 62 iniL 28) = 91 := by rw [nx_mkN, hn]; rfl
  generalize mkN σ 62 iniL 28 = τ at h k1 n1 ⊢
  refine go_X12_init (ct := fun p => p == 238) 12 ?_
  simp only [oI, oL, oR, o1, lI, lL, lR, popN, catS, gv, stL, stL2, swt, cnd, spObj, List.getElem?_cons_zero, List.getElem?_cons_succ, List.getD_cons_zero, List.getD_cons_succ, List.set_cons_zero, List.set_cons_succ, List.nil_append, List.cons_append, Option.toList, Bool.or_false, Bool.false_or, Bool.or_true, Bool.true_or, Nat.reduceBEq, Nat.reduceAdd, Nat.reduceLT, Nat.reduceLeDiff, Int.reduceAdd, Int.reduceToNat, true_and, and_true, Fin.isValue, Fin.val_zero, Fin.val_one, Fin.val_two, Fin.reduceFinMk, eq_self, Int.reduceNeg, imp_self, Nat.reduceMul, Nat.le_refl, not_true_eq_false, not_false_eq_true, List.getElem?_nil, reduceCtorEq, true_or, or_true, Classical.not_not, implies_true, or_self, wI_0, wI_1, wI_m1, b2i_w, b2i_eq0, b2i_eq1, b2i_bool, nor_self, nx_pI, kd_pI, ln_pI, fI_pI, fL_pI, fR_pI, aI_pI, aL_pI, aR_pI, nx_pL, kd_pL, ln_pL, fI_pL, fL_pL, fR_pL, aI_pL, aL_pL, aR_pL, nx_pR, kd_pR, ln_pR, fI_pR, fL_pR, fR_pR, aI_pR, aL_pR, aR_pR, nx_qI, kd_qI, ln_qI, fI_qI, fL_qI, fR_qI, aI_qI, aL_qI, aR_qI, nx_qL, kd_qL, ln_qL, fI_qL, fL_qL, fR_qL, aI_qL, aL_qL, aR_qL, nx_qR, kd_qR, ln_qR, fI_qR, fL_qR, fR_qR, aI_qR, aL_qR, aR_qR, nx_mk, kd_mk, ln_mk, fI_mk, fL_mk, fR_mk, aI_mk, aL_mk, aR_mk, false_and, and_false, if_false, if_true, and_self, Int.reduceEq, Nat.reduceEqDiff, ite_self, MLay_pI, MLay_pL, MLay_qI, MLay_qL, ev_X12_init_230, ev_X12_init_231, ev_X12_init_233, ev_X12_init_235, xt_X12_init, xf_X12_init, k1, n1]
  exact ⟨⟨by decide, by decide⟩, h⟩

set_option maxRecDepth 20000 in
theorem ini_29 {Q : Option AV → Hp → Prop} {σ : Hp} {x1 : Option AV} (hn : nx σ = 63) (hk : kd σ 62 = 13) (h : Go M_X12_init Q 246 [some (vr 62), x1] [] (mkN σ 62 iniL 30) (30, 25873)) : Go M_X12_init Q 238 [some (vr 62), x1] [] (mkN σ 62 iniL 29) (29, 25853) := by
  have e : mkN σ 62 iniL (29 + 1) = pR (mk (mkN σ 62 iniL 29) 101 20) 1340 62 92 := by
    show pR _ _ _ (nx σ + ((29 : Nat) : Int)) = _
    rw [hn]; rfl
  rw [e] at h
  have k1 : kd (mkN σ 62 iniL 29) 62 = 13 := (kd_mkN σ 62 iniL (by omega) 29).trans hk
  have n1 : nx (mkN σ 62 iniL 29) = 92 := by rw [nx_mkN, hn]; rfl
  generalize mkN σ 62 iniL 29 = τ at h k1 n1 ⊢
  refine go_X12_init (ct := fun p => p == 246) 12 ?_
  simp only [oI, oL, oR, o1, lI, lL, lR, popN, catS, gv, stL, stL2, swt, cnd, spObj, List.getElem?_cons_zero, List.getElem?_cons_succ, List.getD_cons_zero, List.getD_cons_succ, List.set_cons_zero, List.set_cons_succ, List.nil_append, List.cons_append, Option.toList, Bool.or_false, Bool.false_or, Bool.or_true, Bool.true_or, Nat.reduceBEq, Nat.reduceAdd, Nat.reduceLT, Nat.reduceLeDiff, Int.reduceAdd, Int.reduceToNat, true_and, and_true, Fin.isValue, Fin.val_zero, Fin.val_one, Fin.val_two, Fin.reduceFinMk, eq_self, Int.reduceNeg, imp_self, Nat.reduceMul, Nat.le_refl, not_true_eq_false, not_false_eq_true, List.getElem?_nil, reduceCtorEq, true_or, or_true, Classical.not_not, implies_true, or_self, wI_0, wI_1, wI_m1, b2i_w, b2i_eq0, b2i_eq1, b2i_bool, nor_self, nx_pI, kd_pI, ln_pI, fI_pI, fL_pI, fR_pI, aI_pI, aL_pI, aR_pI, nx_pL, kd_pL, ln_pL, fI_pL, fL_pL, fR_pL, aI_pL, aL_pL, aR_pL, nx_pR, kd_pR, ln_pR, fI_pR, fL_pR, fR_pR, aI_pR, aL_pR, aR_pR, nx_qI, kd_qI, ln_qI, fI_qI, fL_qI, fR_qI, aI_qI, aL_qI, aR_qI, nx_qL, kd_qL, ln_qL, fI_qL, fL_qL, fR_qL, aI_qL, aL_qL, aR_qL, nx_qR, kd_qR, ln_qR, fI_qR, fL_qR, fR_qR, aI_qR, aL_qR, aR_qR, nx_mk, kd_mk, ln_mk, fI_mk, fL_mk, fR_mk, aI_mk, aL_mk, aR_mk, false_and, and_false, if_false, if_true, and_self, Int.reduceEq, Nat.reduceEqDiff, ite_self, MLay_pI, MLay_pL, MLay_qI, MLay_qL, ev_X12_init_238, ev_X12_init_239, ev_X12_init_241, ev_X12_init_243, xt_X12_init, xf_X12_init, k1, n1]
  exact ⟨⟨by decide, by decide⟩, h⟩

set_option maxRecDepth 20000 in
theorem ini_30 {Q : Option AV → Hp → Prop} {σ : Hp} {x1 : Option AV} (hn : nx σ = 63) (hk : kd σ 62 = 13) (h : Go M_X12_init Q 255 [some (vr 62), x1] [] (mkN σ 62 iniL 31) (31, 26873)) : Go M_X12_init Q 246 [some (vr 62), x1] [] (mkN σ 62 iniL 30) (30, 25873) := by
  have e : mkN σ 62 iniL (30 + 1) = pR (mk (mkN σ 62 iniL 30) 101 1000) 1344 62 93 := by
    show pR _ _ _ (nx σ + ((30 : Nat) : Int)) = _
    rw [hn]; rfl
  rw [e] at h
  have k1 : kd (mkN σ 62 iniL 30) 62 = 13 := (kd_mkN σ 62 iniL (by omega) 30).trans hk
  have n1 : nx (mkN σ 62 iniL 30) = 93 := by rw [nx_mkN, hn]; rfl
  generalize mkN σ 62 iniL 30 = τ at h k1 n1 ⊢
  refine go_X12_init (ct := fun p => p == 255) 12 ?_
  simp only [oI, oL, oR, o1, lI, lL, lR, popN, catS, gv, stL, stL2, swt, cnd, spObj, List.getElem?_cons_zero, List.getElem?_cons_succ, List.getD_cons_zero, List.getD_cons_succ, List.set_cons_zero, List.set_cons_succ, List.nil_append, List.cons_append, Option.toList, Bool.or_false, Bool.false_or, Bool.or_true, Bool.true_or, Nat.reduceBEq, Nat.reduceAdd, Nat.reduceLT, Nat.reduceLeDiff, Int.reduceAdd, Int.reduceToNat, true_and, and_true, Fin.isValue, Fin.val_zero, Fin.val_one, Fin.val_two, Fin.reduceFinMk, eq_self, Int.reduceNeg, imp_self, Nat.reduceMul, Nat.le_refl, not_true_eq_false, not_false_eq_true, List.getElem?_nil, reduceCtorEq, true_or, or_true, Classical.not_not, implies_true, or_self, wI_0, wI_1, wI_m1, b2i_w, b2i_eq0, b2i_eq1, b2i_bool, nor_self, nx_pI, kd_pI, ln_pI, fI_pI, fL_pI, fR_pI, aI_pI, aL_pI, aR_pI, nx_pL, kd_pL, ln_pL, fI_pL, fL_pL, fR_pL, aI_pL, aL_pL, aR_pL, nx_pR, kd_pR, ln_pR, fI_pR, fL_pR, fR_pR, aI_pR, aL_pR, aR_pR, nx_qI, kd_qI, ln_qI, fI_qI, fL_qI, fR_qI, aI_qI, aL_qI, aR_qI, nx_qL, kd_qL, ln_qL, fI_qL, fL_qL, fR_qL, aI_qL, aL_qL, aR_qL, nx_qR, kd_qR, ln_qR, fI_qR, fL_qR, fR_qR, aI_qR, aL_qR, aR_qR, nx_mk, kd_mk, ln_mk, fI_mk, fL_mk, fR_mk, aI_mk, aL_mk, aR_mk, false_and, and_false, if_false, if_true, and_self, Int.reduceEq, Nat.reduceEqDiff, ite_self, MLay_pI, MLay_pL, MLay_qI, MLay_qL, ev_X12_init_246, ev_X12_init_247, ev_X12_init_250, ev_X12_init_252, xt_X12_init, xf_X12_init, k1, n1]
  exact ⟨⟨by decide, by decide⟩, h⟩

set_option maxRecDepth 20000 in
theorem ini_31 {Q : Option AV → Hp → Prop} {σ : Hp} {x1 : Option AV} (hn : nx σ = 63) (hk : kd σ 62 = 13) (h : Go M_X12_init Q 263 [some (vr 62), x1] [] (mkN σ 62 iniL 32) (32, 26921)) : Go M_X12_init Q 255 [some (vr 62), x1] [] (mkN σ 62 iniL 31) (31, 26873) := by
  have e : mkN σ 62 iniL (31 + 1) = pR (mk (mkN σ 62 iniL 31) 101 48) 1354 62 94 := by
    show pR _ _ _ (nx σ + ((31 : Nat) : Int)) = _
    rw [hn]; rfl
  rw [e] at h
  have k1 : kd (mkN σ 62 iniL 31) 62 = 13 := (kd_mkN σ 62 iniL (by omega) 31).trans hk
  have n1 : nx (mkN σ 62 iniL 31) = 94 := by rw [nx_mkN, hn]; rfl
  generalize mkN σ 62 iniL 31 = τ at h k1 n1 ⊢
  refine go_X12_init (ct := fun p => p == 263) 12 ?_
  simp only [oI, oL, oR, o1, lI, lL, lR, popN, catS, gv, stL, stL2, swt, cnd, spObj, List.getElem?_cons_zero, List.getElem?_cons_succ, List.getD_cons_zero, List.getD_cons_succ, List.set_cons_zero, List.set_cons_succ, List.nil_append, List.cons_append, Option.toList, Bool.or_false, Bool.false_or, Bool.or_true, Bool.true_or, Nat.reduceBEq, Nat.reduceAdd, Nat.reduceLT, Nat.reduceLeDiff, Int.reduceAdd, Int.reduceToNat, true_and, and_true, Fin.isValue, Fin.val_zero, Fin.val_one, Fin.val_two, Fin.reduceFinMk, eq_self, Int.reduceNeg, imp_self, Nat.reduceMul, Nat.le_refl, not_true_eq_false, not_false_eq_true, List.getElem?_nil, reduceCtorEq, true_or, or_true, Classical.not_not, implies_true, or_self, wI_0, wI_1, wI_m1, b2i_w, b2i_eq0, b2i_eq1, b2i_bool, nor_self, nx_pI, kd_pI, ln_pI, fI_pI, fL_pI, fR_pI, aI_pI, aL_pI, aR_pI, nx_pL, kd_pL, ln_pL, fI_pL, fL_pL, fR_pL, aI_pL, aL_pL, aR_pL, nx_pR, kd_pR, ln_pR, fI_pR, fL_pR, fR_pR, aI_pR, aL_pR, aR_pR, nx_qI, kd_qI, ln_qI, fI_qI, fL_qI, fR_qI, aI_qI, aL_qI, aR_qI, nx_qL, kd_qL, ln_qL, fI_qL, fL_qL, fR_qL, aI_qL, aL_qL, aR_qL, nx_qR, kd_qR, ln_qR, fI_qR, fL_qR, fR_qR, aI_qR, aL_qR, aR_qR, nx_mk, kd_mk, ln_mk, fI_mk, fL_mk, fR_mk, aI_mk, aL_mk, aR_mk, false_and, and_false, if_false, if_true, and_self, Int.reduceEq, Nat.reduceEqDiff, ite_self, MLay_pI, MLay_pL, MLay_qI, MLay_qL, ev_X12_init_255, ev_X12_init_256, ev_X12_init_258, ev_X12_init_260, xt_X12_init, xf_X12_init, k1, n1]
  exact ⟨⟨by decide, by decide⟩, h⟩

set_option maxRecDepth 20000 in
theorem ini_32 {Q : Option AV → Hp → Prop} {σ : Hp} {x1 : Option AV} (hn : nx σ = 63) (hk : kd σ 62 = 13) (h : Go M_X12_init Q 271 [some (vr 62), x1] [] (mkN σ 62 iniL 33) (33, 26969)) : Go M_X12_init Q 263 [some (vr 62), x1] [] (mkN σ 62 iniL 32) (32, 26921) := by
  have e : mkN σ 62 iniL (32 + 1) = pR (mk (mkN σ 62 iniL 32) 101 48) 1355 62 95 := by
    show pR _ _ _ (nx σ + ((32 : Nat) : Int)) = _
    rw [hn]; rfl
  rw [e] at h
  have k1 : kd (mkN σ 62 iniL 32) 62 = 13 := (kd_mkN σ 62 iniL (by omega) 32).trans hk
  have n1 : nx (mkN σ 62 iniL 32) = 95 := by rw [nx_mkN, hn]; rfl
  generalize mkN σ 62 iniL 32 = τ at h k1 n1 ⊢
  refine go_X12_init (ct := fun p => p == 271) 12 ?_
  simp only [oI, oL, oR, o1, lI, lL, lR, popN, catS, gv, stL, stL2, swt, cnd, spObj, List.getElem?_cons_zero, List.getElem?_cons_succ, List.getD_cons_zero, List.getD_cons_succ, List.set_cons_zero, List.set_cons_succ, List.nil_append, List.cons_append, Option.toList, Bool.or_false, Bool.false_or, Bool.or_true, Bool.true_or, Nat.reduceBEq, Nat.reduceAdd, Nat.reduceLT, Nat.reduceLeDiff, Int.reduceAdd, Int.reduceToNat, true_and, and_true, Fin.isValue, Fin.val_zero, Fin.val_one, Fin.val_two, Fin.reduceFinMk, eq_self, Int.reduceNeg, imp_self, Nat.reduceMul, Nat.le_refl, not_true_eq_false, not_false_eq_true, List.getElem?_nil, reduceCtorEq, true_or, or_true, Classical.not_not, implies_true, or_self, wI_0, wI_1, wI_m1, b2i_w, b2i_eq0, b2i_eq1, b2i_bool, nor_self, nx_pI, kd_pI, ln_pI, fI_pI, fL_pI, fR_pI, aI_pI, aL_pI, aR_pI, nx_pL, kd_pL, ln_pL, fI_pL, fL_pL, fR_pL, aI_pL, aL_pL, aR_pL, nx_pR, kd_pR, ln_pR, fI_pR, fL_pR, fR_pR, aI_pR, aL_pR, aR_pR, nx_qI, kd_qI, ln_qI, fI_qI, fL_qI, fR_qI, aI_qI, aL_qI, aR_qI, nx_qL, kd_qL, ln_qL, fI_qL, fL_qL, fR_qL, aI_qL, aL_qL, aR_qL, nx_qR, kd_qR, ln_qR, fI_qR, fL_qR, fR_qR, aI_qR, aL_qR, aR_qR, nx_mk, kd_mk, ln_mk, fI_mk, fL_mk, fR_mk, aI_mk, aL_mk, aR_mk, false_and, and_false, if_false, if_true, and_self, Int.reduceEq, Nat.reduceEqDiff, ite_self, MLay_pI, MLay_pL, MLay_qI, MLay_qL, ev_X12_init_263, ev_X12_init_264, ev_X12_init_266, ev_X12_init_268, xt_X12_init, xf_X12_init, k1, n1]
  exact ⟨⟨by decide, by decide⟩, h⟩

set_option maxRecDepth 20000 in
theorem ini_33 {Q : Option AV → Hp → Prop} {σ : Hp} {x1 : Option AV} (hn : nx σ = 63) (hk : kd σ 62 = 13) (h : Go M_X12_init Q 279 [some (vr 62), x1] [] (mkN σ 62 iniL 34) (34, 27017)) : Go M_X12_init Q 271 [some (vr 62), x1] [] (mkN σ 62 iniL 33) (33, 26969) := by
  have e : mkN σ 62 iniL (33 + 1) = pR (mk (mkN σ 62 iniL 33) 101 48) 1356 62 96 := by
    show pR _ _ _ (nx σ + ((33 : Nat) : Int)) = _
    rw [hn]; rfl
  rw [e] at h
  have k1 : kd (mkN σ 62 iniL 33) 62 = 13 := (kd_mkN σ 62 iniL (by omega) 33).trans hk
  have n1 : nx (mkN σ 62 iniL 33) = 96 := by rw [nx_mkN, hn]; rfl
  generalize mkN σ 62 iniL 33 = τ at h k1 n1 ⊢
  refine go_X12_init (ct := fun p => p == 279) 12 ?_
  simp only [oI, oL, oR, o1, lI, lL, lR, popN, catS, gv, stL, stL2, swt, cnd, spObj, List.getElem?_cons_zero, List.getElem?_cons_succ, List.getD_cons_zero, List.getD_cons_succ, List.set_cons_zero, List.set_cons_succ, List.nil_append, List.cons_append, Option.toList, Bool.or_false, Bool.false_or, Bool.or_true, Bool.true_or, Nat.reduceBEq, Nat.reduceAdd, Nat.reduceLT, Nat.reduceLeDiff, Int.reduceAdd, Int.reduceToNat, true_and, and_true, Fin.isValue, Fin.val_zero, Fin.val_one, Fin.val_two, Fin.reduceFinMk, eq_self, Int.reduceNeg, imp_self, Nat.reduceMul, Nat.le_refl, not_true_eq_false, not_false_eq_true, List.getElem?_nil, reduceCtorEq, true_or, or_true, Classical.not_not, implies_true, or_self, wI_0, wI_1, wI_m1, b2i_w, b2i_eq0, b2i_eq1, b2i_bool, nor_self, nx_pI, kd_pI, ln_pI, fI_pI, fL_pI, fR_pI, aI_pI, aL_pI, aR_pI, nx_pL, kd_pL, ln_pL, fI_pL, fL_pL, fR_pL, aI_pL, aL_pL, aR_pL, nx_pR, kd_pR, ln_pR, fI_pR, fL_pR, fR_pR, aI_pR, aL_pR, aR_pR, nx_qI, kd_qI, ln_qI, fI_qI, fL_qI, fR_qI, aI_qI, aL_qI, aR_qI, nx_qL, kd_qL, ln_qL, fI_qL, fL_qL, fR_qL, aI_qL, aL_qL, aR_qL, nx_qR, kd_qR, ln_qR, fI_qR, fL_qR, fR_qR, aI_qR, aL_qR, aR_qR, nx_mk, kd_mk, ln_mk, fI_mk, fL_mk, fR_mk, aI_mk, aL_mk, aR_mk, false_and, and_false, if_false, if_true, and_self, Int.reduceEq, Nat.reduceEqDiff, ite_self, MLay_pI, MLay_pL, MLay_qI, MLay_qL, ev_X12_init_271, ev_X12_init_272, ev_X12_init_274, ev_X12_init_276, xt_X12_init, xf_X12_init, k1, n1]
  exact ⟨⟨by decide, by decide⟩, h⟩

set_option maxRecDepth 20000 in
theorem ini_34 {Q : Option AV → Hp → Prop} {σ : Hp} {x1 : Option AV} (hn : nx σ = 63) (hk : kd σ 62 = 13) (h : Go M_X12_init Q 287 [some (vr 62), x1] [] (mkN σ 62 iniL 35) (35, 27065)) : Go M_X12_init Q 279 [some (vr 62), x1] [] (mkN σ 62 iniL 34) (34, 27017) := by
  have e : mkN σ 62 iniL (34 + 1) = pR (mk (mkN σ 62 iniL 34) 101 48) 1357 62 97 := by
    show pR _ _ _ (nx σ + ((34 : Nat) : Int)) = _
    rw [hn]; rfl
  rw [e] at h
  have k1 : kd (mkN σ 62 iniL 34) 62 = 13 := (kd_mkN σ 62 iniL (by omega) 34).trans hk
  have n1 : nx (mkN σ 62 iniL 34) = 97 := by rw [nx_mkN, hn]; rfl
  generalize mkN σ 62 iniL 34 = τ at h k1 n1 ⊢
  refine go_X12_init (ct := fun p => p == 287) 12 ?_
  simp only [oI, oL, oR, o1, lI, lL, lR, popN, catS, gv, stL, stL2, swt, cnd, spObj, List.getElem?_cons_zero, List.getElem?_cons_succ, List.getD_cons_zero, List.getD_cons_succ, List.set_cons_zero, List.set_cons_succ, List.nil_append, List.cons_append, Option.toList, Bool.or_false, Bool.false_or, Bool.or_true, Bool.true_or, Nat.reduceBEq, Nat.reduceAdd, Nat.reduceLT, Nat.reduceLeDiff, Int.reduceAdd, Int.reduceToNat, true_and, and_true, Fin.isValue, Fin.val_zero, Fin.val_one, Fin.val_two, Fin.reduceFinMk, eq_self, Int.reduceNeg, imp_self, Nat.reduceMul, Nat.le_refl, not_true_eq_false, not_false_eq_true, List.getElem?_nil, reduceCtorEq, true_or, or_true, Classical.not_not, implies_true, or_self, wI_0, wI_1, wI_m1, b2i_w, b2i_eq0, b2i_eq1, b2i_bool, nor_self, nx_pI, kd_pI, ln_pI, fI_pI, fL_pI, fR_pI, aI_pI, aL_pI, aR_pI, nx_pL, kd_pL, ln_pL, fI_pL, fL_pL, fR_pL, aI_pL, aL_pL, aR_pL, nx_pR, kd_pR, ln_pR, fI_pR, fL_pR, fR_pR, aI_pR, aL_pR, aR_pR, nx_qI, kd_qI, ln_qI, fI_qI, fL_qI, fR_qI, aI_qI, aL_qI, aR_qI, nx_qL, kd_qL, ln_qL, fI_qL, fL_qL, fR_qL, aI_qL, aL_qL, aR_qL, nx_qR, kd_qR, ln_qR, fI_qR, fL_qR, fR_qR, aI_qR, aL_qR, aR_qR, nx_mk, kd_mk, ln_mk, fI_mk, fL_mk, fR_mk, aI_mk, aL_mk, aR_mk, false_and, and_false, if_false, if_true, and_self, Int.reduceEq, Nat.reduceEqDiff, ite_self, MLay_pI, MLay_pL, MLay_qI, MLay_qL, ev_X12_init_279, ev_X12_init_280, ev_X12_init_282, ev_X12_init_284, xt_X12_init, xf_X12_init, k1, n1]
  exact ⟨⟨by decide, by decide⟩, h⟩

set_option maxRecDepth 20000 in
theorem ini_35 {Q : Option AV → Hp → Prop} {σ : Hp} {x1 : Option AV} (hn : nx σ = 63) (hk : kd σ 62 = 13) (h : Go M_X12_init Q 296 [some (vr 62), x1] [] (mkN σ 62 iniL 36) (36, 29065)) : Go M_X12_init Q 287 [some (vr 62), x1] [] (mkN σ 62 iniL 35) (35, 27065) := by
  have e : mkN σ 62 iniL (35 + 1) = pR (mk (mkN σ 62 iniL 35) 101 2000) 1358 62 98 := by
    show pR _ _ _ (nx σ + ((35 : Nat) : Int)) = _
    rw [hn]; rfl
  rw [e] at h
  have k1 : kd (mkN σ 62 iniL 35) 62 = 13 := (kd_mkN σ 62 iniL (by omega) 35).trans hk
  have n1 : nx (mkN σ 62 iniL 35) = 98 := by rw [nx_mkN, hn]; rfl
  generalize mkN σ 62 iniL 35 = τ at h k1 n1 ⊢
  refine go_X12_init (ct := fun p => p == 296) 12 ?_
  simp only [oI, oL, oR, o1, lI, lL, lR, popN, catS, gv, stL, stL2, swt, cnd, spObj, List.getElem?_cons_zero, List.getElem?_cons_succ, List.getD_cons_zero, List.getD_cons_succ, List.set_cons_zero, List.set_cons_succ, List.nil_append, List.cons_append, Option.toList, Bool.or_false, Bool.false_or, Bool.or_true, Bool.true_or, Nat.reduceBEq, Nat.reduceAdd, Nat.reduceLT, Nat.reduceLeDiff, Int.reduceAdd, Int.reduceToNat, true_and, and_true, Fin.isValue, Fin.val_zero, Fin.val_one, Fin.val_two, Fin.reduceFinMk, eq_self, Int.reduceNeg, imp_self, Nat.reduceMul, Nat.le_refl, not_true_eq_false, not_false_eq_true, List.getElem?_nil, reduceCtorEq, true_or, or_true, Classical.not_not, implies_true, or_self, wI_0, wI_1, wI_m1, b2i_w, b2i_eq0, b2i_eq1, b2i_bool, nor_self, nx_pI, kd_pI, ln_pI, fI_pI, fL_pI, fR_pI, aI_pI, aL_pI, aR_pI, nx_pL, kd_pL, ln_pL, fI_pL, fL_pL, fR_pL, aI_pL, aL_pL, aR_pL, nx_pR, kd_pR, ln_pR, fI_pR, fL_pR, fR_pR, aI_pR, aL_pR, aR_pR, nx_qI, kd_qI, ln_qI, fI_qI, fL_qI, fR_qI, aI_qI, aL_qI, aR_qI, nx_qL, kd_qL, ln_qL, fI_qL, fL_qL, fR_qL, aI_qL, aL_qL, aR_qL, nx_qR, kd_qR, ln_qR, fI_qR, fL_qR, fR_qR, aI_qR, aL_qR, aR_qR, nx_mk, kd_mk, ln_mk, fI_mk, fL_mk, fR_mk, aI_mk, aL_mk, aR_mk, false_and, and_false, if_false, if_true, and_self, Int.reduceEq, Nat.reduceEqDiff, ite_self, MLay_pI, MLay_pL, MLay_qI, MLay_qL, ev_X12_init_287, ev_X12_init_288, ev_X12_init_291, ev_X12_init_293, xt_X12_init, xf_X12_init, k1, n1]
  exact ⟨⟨by decide, by decide⟩, h⟩

set_option maxRecDepth 20000 in
theorem ini_36 {Q : Option AV → Hp → Prop} {σ : Hp} {x1 : Option AV} (hn : nx σ = 63) (hk : kd σ 62 = 13) (h : Go M_X12_init Q 304 [some (vr 62), x1] [] (mkN σ 62 iniL 37) (37, 29071)) : Go M_X12_init Q 296 [some (vr 62), x1] [] (mkN σ 62 iniL 36) (36, 29065) := by
  have e : mkN σ 62 iniL (36 + 1) = pR (mk (mkN σ 62 iniL 36) 101 6) 1360 62 99 := by
    show pR _ _ _ (nx σ + ((36 : Nat) : Int)) = _
    rw [hn]; rfl
  rw [e] at h
  have k1 : kd (mkN σ 62 iniL 36) 62 = 13 := (kd_mkN σ 62 iniL (by omega) 36).trans hk
  have n1 : nx (mkN σ 62 iniL 36) = 99 := by rw [nx_mkN, hn]; rfl
  generalize mkN σ 62 iniL 36 = τ at h k1 n1 ⊢
  refine go_X12_init (ct := fun p => p == 304) 12 ?_
  simp only [oI, oL, oR, o1, lI, lL, lR, popN, catS, gv, stL, stL2, swt, cnd, spObj, List.getElem?_cons_zero, List.getElem?_cons_succ, List.getD_cons_zero, List.getD_cons_succ, List.set_cons_zero, List.set_cons_succ, List.nil_append, List.cons_append, Option.toList, Bool.or_false, Bool.false_or, Bool.or_true, Bool.true_or, Nat.reduceBEq, Nat.reduceAdd, Nat.reduceLT, Nat.reduceLeDiff, Int.reduceAdd, Int.reduceToNat, true_and, and_true, Fin.isValue, Fin.val_zero, Fin.val_one, Fin.val_two, Fin.reduceFinMk, eq_self, Int.reduceNeg, imp_self, Nat.reduceMul, Nat.le_refl, not_true_eq_false, not_false_eq_true, List.getElem?_nil, reduceCtorEq, true_or, or_true, Classical.not_not, implies_true, or_self, wI_0, wI_1, wI_m1, b2i_w, b2i_eq0, b2i_eq1, b2i_bool, nor_self, nx_pI, kd_pI, ln_pI, fI_pI, fL_pI, fR_pI, aI_pI, aL_pI, aR_pI, nx_pL, kd_pL, ln_pL, fI_pL, fL_pL, fR_pL, aI_pL, aL_pL, aR_pL, nx_pR, kd_pR, ln_pR, fI_pR, fL_pR, fR_pR, aI_pR, aL_pR, aR_pR, nx_qI, kd_qI, ln_qI, fI_qI, fL_qI, fR_qI, aI_qI, aL_qI, aR_qI, nx_qL, kd_qL, ln_qL, fI_qL, fL_qL, fR_qL, aI_qL, aL_qL, aR_qL, nx_qR, kd_qR, ln_qR, fI_qR, fL_qR, fR_qR, aI_qR, aL_qR, aR_qR, nx_mk, kd_mk, ln_mk, fI_mk, fL_mk, fR_mk, aI_mk, aL_mk, aR_mk, false_and, and_false, if_false, if_true, and_self, Int.reduceEq, Nat.reduceEqDiff, ite_self, MLay_pI, MLay_pL, MLay_qI, MLay_qL, ev_X12_init_296, ev_X12_init_297, ev_X12_init_299, ev_X12_init_301, xt_X12_init, xf_X12_init, k1, n1]
  exact ⟨⟨by decide, by decide⟩, h⟩

set_option maxRecDepth 20000 in
theorem ini_37 {Q : Option AV → Hp → Prop} {σ : Hp} {x1 : Option AV} (hn : nx σ = 63) (hk : kd σ 62 = 13) (h : Go M_X12_init Q 312 [some (vr 62), x1] [] (mkN σ 62 iniL 38) (38, 29077)) : Go M_X12_init Q 304 [some (vr 62), x1] [] (mkN σ 62 iniL 37) (37, 29071) := by
  have e : mkN σ 62 iniL (37 + 1) = pR (mk (mkN σ 62 iniL 37) 103 6) 1361 62 100 := by
    show pR _ _ _ (nx σ + ((37 : Nat) : Int)) = _
    rw [hn]; rfl
  rw [e] at h
  have k1 : kd (mkN σ 62 iniL 37) 62 = 13 := (kd_mkN σ 62 iniL (by omega) 37).trans hk
  have n1 : nx (mkN σ 62 iniL 37) = 100 := by rw [nx_mkN, hn]; rfl
  generalize mkN σ 62 iniL 37 = τ at h k1 n1 ⊢
  refine go_X12_init (ct := fun p => p == 312) 12 ?_
  simp only [oI, oL, oR, o1, lI, lL, lR, popN, catS, gv, stL, stL2, swt, cnd, spObj, List.getElem?_cons_zero, List.getElem?_cons_succ, List.getD_cons_zero, List.getD_cons_succ, List.set_cons_zero, List.set_cons_succ, List.nil_append, List.cons_append, Option.toList, Bool.or_false, Bool.false_or, Bool.or_true, Bool.true_or, Nat.reduceBEq, Nat.reduceAdd, Nat.reduceLT, Nat.reduceLeDiff, Int.reduceAdd, Int.reduceToNat, true_and, and_true, Fin.isValue, Fin.val_zero, Fin.val_one, Fin.val_two, Fin.reduceFinMk, eq_self, Int.reduceNeg, imp_self, Nat.reduceMul, Nat.le_refl, not_true_eq_false, not_false_eq_true, List.getElem?_nil, reduceCtorEq, true_or, or_true, Classical.not_not, implies_true, or_self, wI_0, wI_1, wI_m1, b2i_w, b2i_eq0, b2i_eq1, b2i_bool, nor_self, nx_pI, kd_pI, ln_pI, fI_pI, fL_pI, fR_pI, aI_pI, aL_pI, aR_pI, nx_pL, kd_pL, ln_pL, fI_pL, fL_pL, fR_pL, aI_pL, aL_pL, aR_pL, nx_pR, kd_pR, ln_pR, fI_pR, fL_pR, fR_pR, aI_pR, aL_pR, aR_pR, nx_qI, kd_qI, ln_qI, fI_qI, fL_qI, fR_qI, aI_qI, aL_qI, aR_qI, nx_qL, kd_qL, ln_qL, fI_qL, fL_qL, fR_qL, aI_qL, aL_qL, aR_qL, nx_qR, kd_qR, ln_qR, fI_qR, fL_qR, fR_qR, aI_qR, aL_qR, aR_qR, nx_mk, kd_mk, ln_mk, fI_mk, fL_mk, fR_mk, aI_mk, aL_mk, aR_mk, false_and, and_false, if_false, if_true, and_self, Int.reduceEq, Nat.reduceEqDiff, ite_self, MLay_pI, MLay_pL, MLay_qI, MLay_qL, ev_X12_init_304, ev_X12_init_305, ev_X12_init_307, ev_X12_init_309, xt_X12_init, xf_X12_init, k1, n1]
  exact ⟨⟨by decide, by decide⟩, h⟩

set_option maxRecDepth 20000 in
theorem ini_38 {Q : Option AV → Hp → Prop} {σ : Hp} {x1 : Option AV} (hn : nx σ = 63) (hk : kd σ 62 = 13) (h : Go M_X12_init Q 320 [some (vr 62), x1] [] (mkN σ 62 iniL 39) (39, 29083)) : Go M_X12_init Q 312 [some (vr 62), x1] [] (mkN σ 62 iniL 38) (38, 29077) := by
  have e : mkN σ 62 iniL (38 + 1) = pR (mk (mkN σ 62 iniL 38) 101 6) 1362 62 101 := by
    show pR _ _ _ (nx σ + ((38 : Nat) : Int)) = _
    rw [hn]; rfl
  rw [e] at h
  have k1 : kd (mkN σ 62 iniL 38) 62 = 13 := (kd_mkN σ 62 iniL (by omega) 38).trans hk
  have n1 : nx (mkN σ 62 iniL 38) = 101 := by rw [nx_mkN, hn]; rfl
  generalize mkN σ 62 iniL 38 = τ at h k1 n1 ⊢
  refine go_X12_init (ct := fun p => p == 320) 12 ?_
  simp only [oI, oL, oR, o1, lI, lL, lR, popN, catS, gv, stL, stL2, swt, cnd, spObj, List.getElem?_cons_zero, List.getElem?_cons_succ, List.getD_cons_zero, List.getD_cons_succ, List.set_cons_zero, List.set_cons_succ, List.nil_append, List.cons_append, Option.toList, Bool.or_false, Bool.false_or, Bool.or_true, Bool.true_or, Nat.reduceBEq, Nat.reduceAdd, Nat.reduceLT, Nat.reduceLeDiff, Int.reduceAdd, Int.reduceToNat, true_and, and_true, Fin.isValue, Fin.val_zero, Fin.val_one, Fin.val_two, Fin.reduceFinMk, eq_self, Int.reduceNeg, imp_self, Nat.reduceMul, Nat.le_refl, not_true_eq_false, not_false_eq_true, List.getElem?_nil, reduceCtorEq, true_or, or_true, Classical.not_not, implies_true, or_self, wI_0, wI_1, wI_m1, b2i_w, b2i_eq0, b2i_eq1, b2i_bool, nor_self, nx_pI, kd_pI, ln_pI, fI_pI, fL_pI, fR_pI, aI_pI, aL_pI, aR_pI, nx_pL, kd_pL, ln_pL, fI_pL, fL_pL, fR_pL, aI_pL, aL_pL, aR_pL, nx_pR, kd_pR, ln_pR, fI_pR, fL_pR, fR_pR, aI_pR, aL_pR, aR_pR, nx_qI, kd_qI, ln_qI, fI_qI, fL_qI, fR_qI, aI_qI, aL_qI, aR_qI, nx_qL, kd_qL, ln_qL, fI_qL, fL_qL, fR_qL, aI_qL, aL_qL, aR_qL, nx_qR, kd_qR, ln_qR, fI_qR, fL_qR, fR_qR, aI_qR, aL_qR, aR_qR, nx_mk, kd_mk, ln_mk, fI_mk, fL_mk, fR_mk, aI_mk, aL_mk, aR_mk, false_and, and_false, if_false, if_true, and_self, Int.reduceEq, Nat.reduceEqDiff, ite_self, MLay_pI, MLay_pL, MLay_qI, MLay_qL, ev_X12_init_312, ev_X12_init_313, ev_X12_init_315, ev_X12_init_317, xt_X12_init, xf_X12_init, k1, n1]
  exact ⟨⟨by decide, by decide⟩, h⟩

set_option maxRecDepth 20000 in
theorem ini_39 {Q : Option AV → Hp → Prop} {σ : Hp} {x1 : Option AV} (hn : nx σ = 63) (hk : kd σ 62 = 13) (h : Go M_X12_init Q 328 [some (vr 62), x1] [] (mkN σ 62 iniL 40) (40, 29089)) : Go M_X12_init Q 320 [some (vr 62), x1] [] (mkN σ 62 iniL 39) (39, 29083) := by
  have e : mkN σ 62 iniL (39 + 1) = pR (mk (mkN σ 62 iniL 39) 101 6) 1363 62 102 := by
    show pR _ _ _ (nx σ + ((39 : Nat) : Int)) = _
    rw [hn]; rfl
  rw [e] at h
  have k1 : kd (mkN σ 62 iniL 39) 62 = 13 := (kd_mkN σ 62 iniL (by omega) 39).trans hk
  have n1 : nx (mkN σ 62 iniL 39) = 102 := by rw [nx_mkN, hn]; rfl
  generalize mkN σ 62 iniL 39 = τ at h k1 n1 ⊢
  refine go_X12_init (ct := fun p => p == 328) 12 ?_
  simp only [oI, oL, oR, o1, lI, lL, lR, popN, catS, gv, stL, stL2, swt, cnd, spObj, List.getElem?_cons_zero, List.getElem?_cons_succ, List.getD_cons_zero, List.getD_cons_succ, List.set_cons_zero, List.set_cons_succ, List.nil_append, List.cons_append, Option.toList, Bool.or_false, Bool.false_or, Bool.or_true, Bool.true_or, Nat.reduceBEq, Nat.reduceAdd, Nat.reduceLT, Nat.reduceLeDiff, Int.reduceAdd, Int.reduceToNat, true_and, and_true, Fin.isValue, Fin.val_zero, Fin.val_one, Fin.val_two, Fin.reduceFinMk, eq_self, Int.reduceNeg, imp_self, Nat.reduceMul, Nat.le_refl, not_true_eq_false, not_false_eq_true, List.getElem?_nil, reduceCtorEq, true_or, or_true, Classical.not_not, implies_true, or_self, wI_0, wI_1, wI_m1, b2i_w, b2i_eq0, b2i_eq1, b2i_bool, nor_self, nx_pI, kd_pI, ln_pI, fI_pI, fL_pI, fR_pI, aI_pI, aL_pI, aR_pI, nx_pL, kd_pL, ln_pL, fI_pL, fL_pL, fR_pL, aI_pL, aL_pL, aR_pL, nx_pR, kd_pR, ln_pR, fI_pR, fL_pR, fR_pR, aI_pR, aL_pR, aR_pR, nx_qI, kd_qI, ln_qI, fI_qI, fL_qI, fR_qI, aI_qI, aL_qI, aR_qI, nx_qL, kd_qL, ln_qL, fI_qL, fL_qL, fR_qL, aI_qL, aL_qL, aR_qL, nx_qR, kd_qR, ln_qR, fI_qR, fL_qR, fR_qR, aI_qR, aL_qR, aR_qR, nx_mk, kd_mk, ln_mk, fI_mk, fL_mk, fR_mk, aI_mk, aL_mk, aR_mk, false_and, and_false, if_false, if_true, and_self, Int.reduceEq, Nat.reduceEqDiff, ite_self, MLay_pI, MLay_pL, MLay_qI, MLay_qL, ev_X12_init_320, ev_X12_init_321, ev_X12_init_323, ev_X12_init_325, xt_X12_init, xf_X12_init, k1, n1]
  exact ⟨⟨by decide, by decide⟩, h⟩

set_option maxRecDepth 20000 in
theorem ini_40 {Q : Option AV → Hp → Prop} {σ : Hp} {x1 : Option AV} (hn : nx σ = 63) (hk : kd σ 62 = 13) (h : Go M_X12_init Q 336 [some (vr 62), x1] [] (mkN σ 62 iniL 41) (41, 29095)) : Go M_X12_init Q 328 [some (vr 62), x1] [] (mkN σ 62 iniL 40) (40, 29089) := by
  have e : mkN σ 62 iniL (40 + 1) = pR (mk (mkN σ 62 iniL 40) 101 6) 1364 62 103 := by
    show pR _ _ _ (nx σ + ((40 : Nat) : Int)) = _
    rw [hn]; rfl
  rw [e] at h
  have k1 : kd (mkN σ 62 iniL 40) 62 = 13 := (kd_mkN σ 62 iniL (by omega) 40).trans hk
  have n1 : nx (mkN σ 62 iniL 40) = 103 := by rw [nx_mkN, hn]; rfl
  generalize mkN σ 62 iniL 40 = τ at h k1 n1 ⊢
  refine go_X12_init (ct := fun p => p == 336) 12 ?_
  simp only [oI, oL, oR, o1, lI, lL, lR, popN, catS, gv, stL, stL2, swt, cnd, spObj, List.getElem?_cons_zero, List.getElem?_cons_succ, List.getD_cons_zero, List.getD_cons_succ, List.set_cons_zero, List.set_cons_succ, List.nil_append, List.cons_append, Option.toList, Bool.or_false, Bool.false_or, Bool.or_true, Bool.true_or, Nat.reduceBEq, Nat.reduceAdd, Nat.reduceLT, Nat.reduceLeDiff, Int.reduceAdd, Int.reduceToNat, true_and, and_true, Fin.isValue, Fin.val_zero, Fin.val_one, Fin.val_two, Fin.reduceFinMk, eq_self, Int.reduceNeg, imp_self, Nat.reduceMul, Nat.le_refl, not_true_eq_false, not_false_eq_true, List.getElem?_nil, reduceCtorEq, true_or, or_true, Classical.not_not, implies_true, or_self, wI_0, wI_1, wI_m1, b2i_w, b2i_eq0, b2i_eq1, b2i_bool, nor_self, nx_pI, kd_pI, ln_pI, fI_pI, fL_pI, fR_pI, aI_pI, aL_pI, aR_pI, nx_pL, kd_pL, ln_pL, fI_pL, fL_pL, fR_pL, aI_pL, aL_pL, aR_pL, nx_pR, kd_pR, ln_pR, fI_pR, fL_pR, fR_pR, aI_pR, aL_pR, aR_pR, nx_qI, kd_qI, ln_qI, fI_qI, fL_qI, fR_qI, aI_qI, aL_qI, aR_qI, nx_qL, kd_qL, ln_qL, fI_qL, fL_qL, fR_qL, aI_qL, aL_qL, aR_qL, nx_qR, kd_qR, ln_qR, fI_qR, fL_qR, fR_qR, aI_qR, aL_qR, aR_qR, nx_mk, kd_mk, ln_mk, fI_mk, fL_mk, fR_mk, aI_mk, aL_mk, aR_mk, false_and, and_false, if_false, if_true, and_self, Int.reduceEq, Nat.reduceEqDiff, ite_self, MLay_pI, MLay_pL, MLay_qI, MLay_qL, ev_X12_init_328, ev_X12_init_329, ev_X12_init_331, ev_X12_init_333, xt_X12_init, xf_X12_init, k1, n1]
  exact ⟨⟨by decide, by decide⟩, h⟩

set_option maxRecDepth 20000 in
theorem ini_41 {Q : Option AV → Hp → Prop} {σ : Hp} {x1 : Option AV} (hn : nx σ = 63) (hk : kd σ 62 = 13) (h : Go M_X12_init Q 344 [some (vr 62), x1] [] (mkN σ 62 iniL 42) (42, 29101)) : Go M_X12_init Q 336 [some (vr 62), x1] [] (mkN σ 62 iniL 41) (41, 29095) := by
  have e : mkN σ 62 iniL (41 + 1) = pR (mk (mkN σ 62 iniL 41) 101 6) 1365 62 104 := by
    show pR _ _ _ (nx σ + ((41 : Nat) : Int)) = _
    rw [hn]; rfl
  rw [e] at h
  have k1 : kd (mkN σ 62 iniL 41) 62 = 13 := (kd_mkN σ 62 iniL (by omega) 41).trans hk
  have n1 : nx (mkN σ 62 iniL 41) = 104 := by rw [nx_mkN, hn]; rfl
  generalize mkN σ 62 iniL 41 = τ at h k1 n1 ⊢
  refine go_X12_init (ct := fun p => p == 344) 12 ?_
  simp only [oI, oL, oR, o1, lI, lL, lR, popN, catS, gv, stL, stL2, swt, cnd, spObj, List.getElem?_cons_zero, List.getElem?_cons_succ, List.getD_cons_zero, List.getD_cons_succ, List.set_cons_zero, List.set_cons_succ, List.nil_append, List.cons_append, Option.toList, Bool.or_false, Bool.false_or, Bool.or_true, Bool.true_or, Nat.reduceBEq, Nat.reduceAdd, Nat.reduceLT, Nat.reduceLeDiff, Int.reduceAdd, Int.reduceToNat, true_and, and_true, Fin.isValue, Fin.val_zero, Fin.val_one, Fin.val_two, Fin.reduceFinMk, eq_self, Int.reduceNeg, imp_self, Nat.reduceMul, Nat.le_refl, not_true_eq_false, not_false_eq_true, List.getElem?_nil, reduceCtorEq, true_or, or_true, Classical.not_not, implies_true, or_self, wI_0, wI_1, wI_m1, b2i_w, b2i_eq0, b2i_eq1, b2i_bool, nor_self, nx_pI, kd_pI, ln_pI, fI_pI, fL_pI, fR_pI, aI_pI, aL_pI, aR_pI, nx_pL, kd_pL, ln_pL, fI_pL, fL_pL, fR_pL, aI_pL, aL_pL, aR_pL, nx_pR, kd_pR, ln_pR, fI_pR, fL_pR, fR_pR, aI_pR, aL_pR, aR_pR, nx_qI, kd_qI, ln_qI, fI_qI, fL_qI, fR_qI, aI_qI, aL_qI, aR_qI, nx_qL, kd_qL, ln_qL, fI_qL, fL_qL, fR_qL, aI_qL, aL_qL, aR_qL, nx_qR, kd_qR, ln_qR, fI_qR, fL_qR, fR_qR, aI_qR, aL_qR, aR_qR, nx_mk, kd_mk, ln_mk, fI_mk, fL_mk, fR_mk, aI_mk, aL_mk, aR_mk, false_and, and_false, if_false, if_true, and_self, Int.reduceEq, Nat.reduceEqDiff, ite_self, MLay_pI, MLay_pL, MLay_qI, MLay_qL, ev_X12_init_336, ev_X12_init_337, ev_X12_init_339, ev_X12_init_341, xt_X12_init, xf_X12_init, k1, n1]
  exact ⟨⟨by decide, by decide⟩, h⟩

set_option maxRecDepth 20000 in
theorem ini_42 {Q : Option AV → Hp → Prop} {σ : Hp} {x1 : Option AV} (hn : nx σ = 63) (hk : kd σ 62 = 13) (h : Go M_X12_init Q 352 [some (vr 62), x1] [] (mkN σ 62 iniL 43) (43, 29107)) : Go M_X12_init Q 344 [some (vr 62), x1] [] (mkN σ 62 iniL 42) (42, 29101) := by
  have e : mkN σ 62 iniL (42 + 1) = pR (mk (mkN σ 62 iniL 42) 101 6) 1366 62 105 := by
    show pR _ _ _ (nx σ + ((42 : Nat) : Int)) = _
    rw [hn]; rfl
  rw [e] at h
  have k1 : kd (mkN σ 62 iniL 42) 62 = 13 := (kd_mkN σ 62 iniL (by omega) 42).trans hk
  have n1 : nx (mkN σ 62 iniL 42) = 105 := by rw [nx_mkN, hn]; rfl
  generalize mkN σ 62 iniL 42 = τ at h k1 n1 ⊢
  refine go_X12_init (ct := fun p => p == 352) 12 ?_
  simp only [oI, oL, oR, o1, lI, lL, lR, popN, catS, gv, stL, stL2, swt, cnd, spObj, List.getElem?_cons_zero, List.getElem?_cons_succ, List.getD_cons_zero, List.getD_cons_succ, List.set_cons_zero, List.set_cons_succ, List.nil_append, List.cons_append, Option.toList, Bool.or_false, Bool.false_or, Bool.or_true, Bool.true_or, Nat.reduceBEq, Nat.reduceAdd, Nat.reduceLT, Nat.reduceLeDiff, Int.reduceAdd, Int.reduceToNat, true_and, and_true, Fin.isValue, Fin.val_zero, Fin.val_one, Fin.val_two, Fin.reduceFinMk, eq_self, Int.reduceNeg, imp_self, Nat.reduceMul, Nat.le_refl, not_true_eq_false, not_false_eq_true, List.getElem?_nil, reduceCtorEq, true_or, or_true, Classical.not_not, implies_true, or_self, wI_0, wI_1, wI_m1, b2i_w, b2i_eq0, b2i_eq1, b2i_bool, nor_self, nx_pI, kd_pI, ln_pI, fI_pI, fL_pI, fR_pI, aI_pI, aL_pI, aR_pI, nx_pL, kd_pL, ln_pL, fI_pL, fL_pL, fR_pL, aI_pL, aL_pL, aR_pL, nx_pR, kd_pR, ln_pR, fI_pR, fL_pR, fR_pR, aI_pR, aL_pR, aR_pR, nx_qI, kd_qI, ln_qI, fI_qI, fL_qI, fR_qI, aI_qI, aL_qI, aR_qI, nx_qL, kd_qL, ln_qL, fI_qL, fL_qL, fR_qL, aI_qL, aL_qL, aR_qL, nx_qR, kd_qR, ln_qR, fI_qR, fL_qR, fR_qR, aI_qR, aL_qR, aR_qR, nx_mk, kd_mk, ln_mk, fI_mk, fL_mk, fR_mk, aI_mk, aL_mk, aR_mk, false_and, and_false, if_false, if_true, and_self, Int.reduceEq, Nat.reduceEqDiff, ite_self, MLay_pI, MLay_pL, MLay_qI, MLay_qL, ev_X12_init_344, ev_X12_init_345, ev_X12_init_347, ev_X12_init_349, xt_X12_init, xf_X12_init, k1, n1]
  exact ⟨⟨by decide, by decide⟩, h⟩

set_option maxRecDepth 20000 in
theorem ini_43 {Q : Option AV → Hp → Prop} {σ : Hp} {x1 : Option AV} (hn : nx σ = 63) (hk : kd σ 62 = 13) (h : Go M_X12_init Q 360 [some (vr 62), x1] [] (mkN σ 62 iniL 44) (44, 29113)) : Go M_X12_init Q 352 [some (vr 62), x1] [] (mkN σ 62 iniL 43) (43, 29107) := by
  have e : mkN σ 62 iniL (43 + 1) = pR (mk (mkN σ 62 iniL 43) 101 6) 1367 62 106 := by
    show pR _ _ _ (nx σ + ((43 : Nat) : Int)) = _
    rw [hn]; rfl
  rw [e] at h
  have k1 : kd (mkN σ 62 iniL 43) 62 = 13 := (kd_mkN σ 62 iniL (by omega) 43).trans hk
  have n1 : nx (mkN σ 62 iniL 43) = 106 := by rw [nx_mkN, hn]; rfl
  generalize mkN σ 62 iniL 43 = τ at h k1 n1 ⊢
  refine go_X12_init (ct := fun p => p == 360) 12 ?_
  simp only [oI, oL, oR, o1, lI, lL, lR, popN, catS, gv, stL, stL2, swt, cnd, spObj, List.getElem?_cons_zero, List.getElem?_cons_succ, List.getD_cons_zero, List.getD_cons_succ, List.set_cons_zero, List.set_cons_succ, List.nil_append, List.cons_append, Option.toList, Bool.or_false, Bool.false_or, Bool.or_true, Bool.true_or, Nat.reduceBEq, Nat.reduceAdd, Nat.reduceLT, Nat.reduceLeDiff, Int.reduceAdd, Int.reduceToNat, true_and, and_true, Fin.isValue, Fin.val_zero, Fin.val_one, Fin.val_two, Fin.reduceFinMk, eq_self, Int.reduceNeg, imp_self, Nat.reduceMul, Nat.le_refl, not_true_eq_false, not_false_eq_true, List.getElem?_nil, reduceCtorEq, true_or, or_true, Classical.not_not, implies_true, or_self, wI_0, wI_1, wI_m1, b2i_w, b2i_eq0, b2i_eq1, b2i_bool, nor_self, nx_pI, kd_pI, ln_pI, fI_pI, fL_pI, fR_pI, aI_pI, aL_pI, aR_pI, nx_pL, kd_pL, ln_pL, fI_pL, fL_pL, fR_pL, aI_pL, aL_pL, aR_pL, nx_pR, kd_pR, ln_pR, fI_pR, fL_pR, fR_pR, aI_pR, aL_pR, aR_pR, nx_qI, kd_qI, ln_qI, fI_qI, fL_qI, fR_qI, aI_qI, aL_qI, aR_qI, nx_qL, kd_qL, ln_qL, fI_qL, fL_qL, fR_qL, aI_qL, aL_qL, aR_qL, nx_qR, kd_qR, ln_qR, fI_qR, fL_qR, fR_qR, aI_qR, aL_qR, aR_qR, nx_mk, kd_mk, ln_mk, fI_mk, fL_mk, fR_mk, aI_mk, aL_mk, aR_mk, false_and, and_false, if_false, if_true, and_self, Int.reduceEq, Nat.reduceEqDiff, ite_self, MLay_pI, MLay_pL, MLay_qI, MLay_qL, ev_X12_init_352, ev_X12_init_353, ev_X12_init_355, ev_X12_init_357, xt_X12_init, xf_X12_init, k1, n1]
  exact ⟨⟨by decide, by decide⟩, h⟩

set_option maxRecDepth 20000 in
theorem ini_44 {Q : Option AV → Hp → Prop} {σ : Hp} {x1 : Option AV} (hn : nx σ = 63) (hk : kd σ 62 = 13) (h : Go M_X12_init Q 368 [some (vr 62), x1] [] (mkN σ 62 iniL 45) (45, 29119)) : Go M_X12_init Q 360 [some (vr 62), x1] [] (mkN σ 62 iniL 44) (44, 29113) := by
  have e : mkN σ 62 iniL (44 + 1) = pR (mk (mkN σ 62 iniL 44) 101 6) 1368 62 107 := by
    show pR _ _ _ (nx σ + ((44 : Nat) : Int)) = _
    rw [hn]; rfl
  rw [e] at h
  have k1 : kd (mkN σ 62 iniL 44) 62 = 13 := (kd_mkN σ 62 iniL (by omega) 44).trans hk
  have n1 : nx (mkN σ 62 iniL 44) = 107 := by rw [nx_mkN, hn]; rfl
  generalize mkN σ 62 iniL 44 = τ at h k1 n1 ⊢
  refine go_X12_init (ct := fun p => p == 368) 12 ?_
  simp only [oI, oL, oR, o1, lI, lL, lR, popN, catS, gv, stL, stL2, swt, cnd, spObj, List.getElem?_cons_zero, List.getElem?_cons_succ, List.getD_cons_zero, List.getD_cons_succ, List.set_cons_zero, List.set_cons_succ, List.nil_append, List.cons_append, Option.toList, Bool.or_false, Bool.false_or, Bool.or_true, Bool.true_or, Nat.reduceBEq, Nat.reduceAdd, Nat.reduceLT, Nat.reduceLeDiff, Int.reduceAdd, Int.reduceToNat, true_and, and_true, Fin.isValue, Fin.val_zero, Fin.val_one, Fin.val_two, Fin.reduceFinMk, eq_self, Int.reduceNeg, imp_self, Nat.reduceMul, Nat.le_refl, not_true_eq_false, not_false_eq_true, List.getElem?_nil, reduceCtorEq, true_or, or_true, Classical.not_not, implies_true, or_self, wI_0, wI_1, wI_m1, b2i_w, b2i_eq0, b2i_eq1, b2i_bool, nor_self, nx_pI, kd_pI, ln_pI, fI_pI, fL_pI, fR_pI, aI_pI, aL_pI, aR_pI, nx_pL, kd_pL, ln_pL, fI_pL, fL_pL, fR_pL, aI_pL, aL_pL, aR_pL, nx_pR, kd_pR, ln_pR, fI_pR, fL_pR, fR_pR, aI_pR, aL_pR, aR_pR, nx_qI, kd_qI, ln_qI, fI_qI, fL_qI, fR_qI, aI_qI, aL_qI, aR_qI, nx_qL, kd_qL, ln_qL, fI_qL, fL_qL, fR_qL, aI_qL, aL_qL, aR_qL, nx_qR, kd_qR, ln_qR, fI_qR, fL_qR, fR_qR, aI_qR, aL_qR, aR_qR, nx_mk, kd_mk, ln_mk, fI_mk, fL_mk, fR_mk, aI_mk, aL_mk, aR_mk, false_and, and_false, if_false, if_true, and_self, Int.reduceEq, Nat.reduceEqDiff, ite_self, MLay_pI, MLay_pL, MLay_qI, MLay_qL, ev_X12_init_360, ev_X12_init_361, ev_X12_init_363, ev_X12_init_365, xt_X12_init, xf_X12_init, k1, n1]
  exact ⟨⟨by decide, by decide⟩, h⟩

set_option maxRecDepth 20000 in
theorem ini_45 {Q : Option AV → Hp → Prop} {σ : Hp} {x1 : Option AV} (hn : nx σ = 63) (hk : kd σ 62 = 13) (h : Go M_X12_init Q 376 [some (vr 62), x1] [] (mkN σ 62 iniL 46) (46, 29125)) : Go M_X12_init Q 368 [some (vr 62), x1] [] (mkN σ 62 iniL 45) (45, 29119) := by
  have e : mkN σ 62 iniL (45 + 1) = pR (mk (mkN σ 62 iniL 45) 101 6) 1369 62 108 := by
    show pR _ _ _ (nx σ + ((45 : Nat) : Int)) = _
    rw [hn]; rfl
  rw [e] at h
  have k1 : kd (mkN σ 62 iniL 45) 62 = 13 := (kd_mkN σ 62 iniL (by omega) 45).trans hk
  have n1 : nx (mkN σ 62 iniL 45) = 108 := by rw [nx_mkN, hn]; rfl
  generalize mkN σ 62 iniL 45 = τ at h k1 n1 ⊢
  refine go_X12_init (ct := fun p => p == 376) 12 ?_
  simp only [oI, oL, oR, o1, lI, lL, lR, popN, catS, gv, stL, stL2, swt, cnd, spObj, List.getElem?_cons_zero, List.getElem?_cons_succ, List.getD_cons_zero, List.getD_cons_succ, List.set_cons_zero, List.set_cons_succ, List.nil_append, List.cons_append, Option.toList, Bool.or_false, Bool.false_or, Bool.or_true, Bool.true_or, Nat.reduceBEq, Nat.reduceAdd, Nat.reduceLT, Nat.reduceLeDiff, Int.reduceAdd, Int.reduceToNat, true_and, and_true, Fin.isValue, Fin.val_zero, Fin.val_one, Fin.val_two, Fin.reduceFinMk, eq_self, Int.reduceNeg, imp_self, Nat.reduceMul, Nat.le_refl, not_true_eq_false, not_false_eq_true, List.getElem?_nil, reduceCtorEq, true_or, or_true, Classical.not_not, implies_true, or_self, wI_0, wI_1, wI_m1, b2i_w, b2i_eq0, b2i_eq1, b2i_bool, nor_self, nx_pI, kd_pI, ln_pI, fI_pI, fL_pI, fR_pI, aI_pI, aL_pI, aR_pI, nx_pL, kd_pL, ln_pL, fI_pL, fL_pL, fR_pL, aI_pL, aL_pL, aR_pL, nx_pR, kd_pR, ln_pR, fI_pR, fL_pR, fR_pR, aI_pR, aL_pR, aR_pR, nx_qI, kd_qI, ln_qI, fI_qI, fL_qI, fR_qI, aI_qI, aL_qI, aR_qI, nx_qL, kd_qL, ln_qL, fI_qL, fL_qL, fR_qL, aI_qL, aL_qL, aR_qL, nx_qR, kd_qR, ln_qR, fI_qR, fL_qR, fR_qR, aI_qR, aL_qR, aR_qR, nx_mk, kd_mk, ln_mk, fI_mk, fL_mk, fR_mk, aI_mk, aL_mk, aR_mk, false_and, and_false, if_false, if_true, and_self, Int.reduceEq, Nat.reduceEqDiff, ite_self, MLay_pI, MLay_pL, MLay_qI, MLay_qL, ev_X12_init_368, ev_X12_init_369, ev_X12_init_371, ev_X12_init_373, xt_X12_init, xf_X12_init, k1, n1]
  exact ⟨⟨by decide, by decide⟩, h⟩

set_option maxRecDepth 20000 in
theorem ini_46 {Q : Option AV → Hp → Prop} {σ : Hp} {x1 : Option AV} (hn : nx σ = 63) (hk : kd σ 62 = 13) (h : Go M_X12_init Q 384 [some (vr 62), x1] [] (mkN σ 62 iniL 47) (47, 29133)) : Go M_X12_init Q 376 [some (vr 62), x1] [] (mkN σ 62 iniL 46) (46, 29125) := by
  have e : mkN σ 62 iniL (46 + 1) = pR (mk (mkN σ 62 iniL 46) 101 8) 1370 62 109 := by
    show pR _ _ _ (nx σ + ((46 : Nat) : Int)) = _
    rw [hn]; rfl
  rw [e] at h
  have k1 : kd (mkN σ 62 iniL 46) 62 = 13 := (kd_mkN σ 62 iniL (by omega) 46).trans hk
  have n1 : nx (mkN σ 62 iniL 46) = 109 := by rw [nx_mkN, hn]; rfl
  generalize mkN σ 62 iniL 46 = τ at h k1 n1 ⊢
  refine go_X12_init (ct := fun p => p == 384) 12 ?_
  simp only [oI, oL, oR, o1, lI, lL, lR, popN, catS, gv, stL, stL2, swt, cnd, spObj, List.getElem?_cons_zero, List.getElem?_cons_succ, List.getD_cons_zero, List.getD_cons_succ, List.set_cons_zero, List.set_cons_succ, List.nil_append, List.cons_append, Option.toList, Bool.or_false, Bool.false_or, Bool.or_true, Bool.true_or, Nat.reduceBEq, Nat.reduceAdd, Nat.reduceLT, Nat.reduceLeDiff, Int.reduceAdd, Int.reduceToNat, true_and, and_true, Fin.isValue, Fin.val_zero, Fin.val_one, Fin.val_two, Fin.reduceFinMk, eq_self, Int.reduceNeg, imp_self, Nat.reduceMul, Nat.le_refl, not_true_eq_false, not_false_eq_true, List.getElem?_nil, reduceCtorEq, true_or, or_true, Classical.not_not, implies_true, or_self, wI_0, wI_1, wI_m1, b2i_w, b2i_eq0, b2i_eq1, b2i_bool, nor_self, nx_pI, kd_pI, ln_pI, fI_pI, fL_pI, fR_pI, aI_pI, aL_pI, aR_pI, nx_pL, kd_pL, ln_pL, fI_pL, fL_pL, fR_pL, aI_pL, aL_pL, aR_pL, nx_pR, kd_pR, ln_pR, fI_pR, fL_pR, fR_pR, aI_pR, aL_pR, aR_pR, nx_qI, kd_qI, ln_qI, fI_qI, fL_qI, fR_qI, aI_qI, aL_qI, aR_qI, nx_qL, kd_qL, ln_qL, fI_qL, fL_qL, fR_qL, aI_qL, aL_qL, aR_qL, nx_qR, kd_qR, ln_qR, fI_qR, fL_qR, fR_qR, aI_qR, aL_qR, aR_qR, nx_mk, kd_mk, ln_mk, fI_mk, fL_mk, fR_mk, aI_mk, aL_mk, aR_mk, false_and, and_false, if_false, if_true, and_self, Int.reduceEq, Nat.reduceEqDiff, ite_self, MLay_pI, MLay_pL, MLay_qI, MLay_qL, ev_X12_init_376, ev_X12_init_377, ev_X12_init_379, ev_X12_init_381, xt_X12_init, xf_X12_init, k1, n1]
  exact ⟨⟨by decide, by decide⟩, h⟩

set_option maxRecDepth 20000 in
theorem ini_47 {Q : Option AV → Hp → Prop} {σ : Hp} {x1 : Option AV} (hn : nx σ = 63) (hk : kd σ 62 = 13) (h : Go M_X12_init Q 392 [some (vr 62), x1] [] (mkN σ 62 iniL 48) (48, 29233)) : Go M_X12_init Q 384 [some (vr 62), x1] [] (mkN σ 62 iniL 47) (47, 29133) := by
  have e : mkN σ 62 iniL (47 + 1) = pR (mk (mkN σ 62 iniL 47) 101 100) 1372 62 110 := by
    show pR _ _ _ (nx σ + ((47 : Nat) : Int)) = _
    rw [hn]; rfl
  rw [e] at h
  have k1 : kd (mkN σ 62 iniL 47) 62 = 13 := (kd_mkN σ 62 iniL (by omega) 47).trans hk
  have n1 : nx (mkN σ 62 iniL 47) = 110 := by rw [nx_mkN, hn]; rfl
  generalize mkN σ 62 iniL 47 = τ at h k1 n1 ⊢
  refine go_X12_init (ct := fun p => p == 392) 12 ?_
  simp only [oI, oL, oR, o1, lI, lL, lR, popN, catS, gv, stL, stL2, swt, cnd, spObj, List.getElem?_cons_zero, List.getElem?_cons_succ, List.getD_cons_zero, List.getD_cons_succ, List.set_cons_zero, List.set_cons_succ, List.nil_append, List.cons_append, Option.toList, Bool.or_false, Bool.false_or, Bool.or_true, Bool.true_or, Nat.reduceBEq, Nat.reduceAdd, Nat.reduceLT, Nat.reduceLeDiff, Int.reduceAdd, Int.reduceToNat, true_and, and_true, Fin.isValue, Fin.val_zero, Fin.val_one, Fin.val_two, Fin.reduceFinMk, eq_self, Int.reduceNeg, imp_self, Nat.reduceMul, Nat.le_refl, not_true_eq_false, not_false_eq_true, List.getElem?_nil, reduceCtorEq, true_or, or_true, Classical.not_not, implies_true, or_self, wI_0, wI_1, wI_m1, b2i_w, b2i_eq0, b2i_eq1, b2i_bool, nor_self, nx_pI, kd_pI, ln_pI, fI_pI, fL_pI, fR_pI, aI_pI, aL_pI, aR_pI, nx_pL, kd_pL, ln_pL, fI_pL, fL_pL, fR_pL, aI_pL, aL_pL, aR_pL, nx_pR, kd_pR, ln_pR, fI_pR, fL_pR, fR_pR, aI_pR, aL_pR, aR_pR, nx_qI, kd_qI, ln_qI, fI_qI, fL_qI, fR_qI, aI_qI, aL_qI, aR_qI, nx_qL, kd_qL, ln_qL, fI_qL, fL_qL, fR_qL, aI_qL, aL_qL, aR_qL, nx_qR, kd_qR, ln_qR, fI_qR, fL_qR, fR_qR, aI_qR, aL_qR, aR_qR, nx_mk, kd_mk, ln_mk, fI_mk, fL_mk, fR_mk, aI_mk, aL_mk, aR_mk, false_and, and_false, if_false, if_true, and_self, Int.reduceEq, Nat.reduceEqDiff, ite_self, MLay_pI, MLay_pL, MLay_qI, MLay_qL, ev_X12_init_384, ev_X12_init_385, ev_X12_init_387, ev_X12_init_389, xt_X12_init, xf_X12_init, k1, n1]
  exact ⟨⟨by decide, by decide⟩, h⟩

set_option maxRecDepth 20000 in
theorem ini_48 {Q : Option AV → Hp → Prop} {σ : Hp} {x1 : Option AV} (hn : nx σ = 63) (hk : kd σ 62 = 13) (h : Go M_X12_init Q 400 [some (vr 62), x1] [] (mkN σ 62 iniL 49) (49, 29333)) : Go M_X12_init Q 392 [some (vr 62), x1] [] (mkN σ 62 iniL 48) (48, 29233) := by
  have e : mkN σ 62 iniL (48 + 1) = pR (mk (mkN σ 62 iniL 48) 101 100) 1373 62 111 := by
    show pR _ _ _ (nx σ + ((48 : Nat) : Int)) = _
    rw [hn]; rfl
  rw [e] at h
  have k1 : kd (mkN σ 62 iniL 48) 62 = 13 := (kd_mkN σ 62 iniL (by omega) 48).trans hk
  have n1 : nx (mkN σ 62 iniL 48) = 111 := by rw [nx_mkN, hn]; rfl
  generalize mkN σ 62 iniL 48 = τ at h k1 n1 ⊢
  refine go_X12_init (ct := fun p => p == 400) 12 ?_
  simp only [oI, oL, oR, o1, lI, lL, lR, popN, catS, gv, stL, stL2, swt, cnd, spObj, List.getElem?_cons_zero, List.getElem?_cons_succ, List.getD_cons_zero, List.getD_cons_succ, List.set_cons_zero, List.set_cons_succ, List.nil_append, List.cons_append, Option.toList, Bool.or_false, Bool.false_or, Bool.or_true, Bool.true_or, Nat.reduceBEq, Nat.reduceAdd, Nat.reduceLT, Nat.reduceLeDiff, Int.reduceAdd, Int.reduceToNat, true_and, and_true, Fin.isValue, Fin.val_zero, Fin.val_one, Fin.val_two, Fin.reduceFinMk, eq_self, Int.reduceNeg, imp_self, Nat.reduceMul, Nat.le_refl, not_true_eq_false, not_false_eq_true, List.getElem?_nil, reduceCtorEq, true_or, or_true, Classical.not_not, implies_true, or_self, wI_0, wI_1, wI_m1, b2i_w, b2i_eq0, b2i_eq1, b2i_bool, nor_self, nx_pI, kd_pI, ln_pI, fI_pI, fL_pI, fR_pI, aI_pI, aL_pI, aR_pI, nx_pL, kd_pL, ln_pL, fI_pL, fL_pL, fR_pL, aI_pL, aL_pL, aR_pL, nx_pR, kd_pR, ln_pR, fI_pR, fL_pR, fR_pR, aI_pR, aL_pR, aR_pR, nx_qI, kd_qI, ln_qI, fI_qI, fL_qI, fR_qI, aI_qI, aL_qI, aR_qI, nx_qL, kd_qL, ln_qL, fI_qL, fL_qL, fR_qL, aI_qL, aL_qL, aR_qL, nx_qR, kd_qR, ln_qR, fI_qR, fL_qR, fR_qR, aI_qR, aL_qR, aR_qR, nx_mk, kd_mk, ln_mk, fI_mk, fL_mk, fR_mk, aI_mk, aL_mk, aR_mk, false_and, and_false, if_false, if_true, and_self, Int.reduceEq, Nat.reduceEqDiff, ite_self, MLay_pI, MLay_pL, MLay_qI, MLay_qL, ev_X12_init_392, ev_X12_init_393, ev_X12_init_395, ev_X12_init_397, xt_X12_init, xf_X12_init, k1, n1]
  exact ⟨⟨by decide, by decide⟩, h⟩

set_option maxRecDepth 20000 in
theorem ini_49 {Q : Option AV → Hp → Prop} {σ : Hp} {x1 : Option AV} (hn : nx σ = 63) (hk : kd σ 62 = 13) (h : Go M_X12_init Q 408 [some (vr 62), x1] [] (mkN σ 62 iniL 50) (50, 29433)) : Go M_X12_init Q 400 [some (vr 62), x1] [] (mkN σ 62 iniL 49) (49, 29333) := by
  have e : mkN σ 62 iniL (49 + 1) = pR (mk (mkN σ 62 iniL 49) 101 100) 1374 62 112 := by
    show pR _ _ _ (nx σ + ((49 : Nat) : Int)) = _
    rw [hn]; rfl
  rw [e] at h
  have k1 : kd (mkN σ 62 iniL 49) 62 = 13 := (kd_mkN σ 62 iniL (by omega) 49).trans hk
  have n1 : nx (mkN σ 62 iniL 49) = 112 := by rw [nx_mkN, hn]; rfl
  generalize mkN σ 62 iniL 49 = τ at h k1 n1 ⊢
  refine go_X12_init (ct := fun p => p == 408) 12 ?_
  simp only [oI, oL, oR, o1, lI, lL, lR, popN, catS, gv, stL, stL2, swt, cnd, spObj, List.getElem?_cons_zero, List.getElem?_cons_succ, List.getD_cons_zero, List.getD_cons_succ, List.set_cons_zero, List.set_cons_succ, List.nil_append, List.cons_append, Option.toList, Bool.or_false, Bool.false_or, Bool.or_true, Bool.true_or, Nat.reduceBEq, Nat.reduceAdd, Nat.reduceLT, Nat.reduceLeDiff, Int.reduceAdd, Int.reduceToNat, true_and, and_true, Fin.isValue, Fin.val_zero, Fin.val_one, Fin.val_two, Fin.reduceFinMk, eq_self, Int.reduceNeg, imp_self, Nat.reduceMul, Nat.le_refl, not_true_eq_false, not_false_eq_true, List.getElem?_nil, reduceCtorEq, true_or, or_true, Classical.not_not, implies_true, or_self, wI_0, wI_1, wI_m1, b2i_w, b2i_eq0, b2i_eq1, b2i_bool, nor_self, nx_pI, kd_pI, ln_pI, fI_pI, fL_pI, fR_pI, aI_pI, aL_pI, aR_pI, nx_pL, kd_pL, ln_pL, fI_pL, fL_pL, fR_pL, aI_pL, aL_pL, aR_pL, nx_pR, kd_pR, ln_pR, fI_pR, fL_pR, fR_pR, aI_pR, aL_pR, aR_pR, nx_qI, kd_qI, ln_qI, fI_qI, fL_qI, fR_qI, aI_qI, aL_qI, aR_qI, nx_qL, kd_qL, ln_qL, fI_qL, fL_qL, fR_qL, aI_qL, aL_qL, aR_qL, nx_qR, kd_qR, ln_qR, fI_qR, fL_qR, fR_qR, aI_qR, aL_qR, aR_qR, nx_mk, kd_mk, ln_mk, fI_mk, fL_mk, fR_mk, aI_mk, aL_mk, aR_mk, false_and, and_false, if_false, if_true, and_self, Int.reduceEq, Nat.reduceEqDiff, ite_self, MLay_pI, MLay_pL, MLay_qI, MLay_qL, ev_X12_init_400, ev_X12_init_401, ev_X12_init_403, ev_X12_init_405, xt_X12_init, xf_X12_init, k1, n1]
  exact ⟨⟨by decide, by decide⟩, h⟩

set_option maxRecDepth 20000 in
theorem ini_50 {Q : Option AV → Hp → Prop} {σ : Hp} {x1 : Option AV} (hn : nx σ = 63) (hk : kd σ 62 = 13) (h : Go M_X12_init Q 416 [some (vr 62), x1] [] (mkN σ 62 iniL 51) (51, 29533)) : Go M_X12_init Q 408 [some (vr 62), x1] [] (mkN σ 62 iniL 50) (50, 29433) := by
  have e : mkN σ 62 iniL (50 + 1) = pR (mk (mkN σ 62 iniL 50) 103 100) 1375 62 113 := by
    show pR _ _ _ (nx σ + ((50 : Nat) : Int)) = _
    rw [hn]; rfl
  rw [e] at h
  have k1 : kd (mkN σ 62 iniL 50) 62 = 13 := (kd_mkN σ 62 iniL (by omega) 50).trans hk
  have n1 : nx (mkN σ 62 iniL 50) = 113 := by rw [nx_mkN, hn]; rfl
  generalize mkN σ 62 iniL 50 = τ at h k1 n1 ⊢
  refine go_X12_init (ct := fun p => p == 416) 12 ?_
  simp only [oI, oL, oR, o1, lI, lL, lR, popN, catS, gv, stL, stL2, swt, cnd, spObj, List.getElem?_cons_zero, List.getElem?_cons_succ, List.getD_cons_zero, List.getD_cons_succ, List.set_cons_zero, List.set_cons_succ, List.nil_append, List.cons_append, Option.toList, Bool.or_false, Bool.false_or, Bool.or_true, Bool.true_or, Nat.reduceBEq, Nat.reduceAdd, Nat.reduceLT, Nat.reduceLeDiff, Int.reduceAdd, Int.reduceToNat, true_and, and_true, Fin.isValue, Fin.val_zero, Fin.val_one, Fin.val_two, Fin.reduceFinMk, eq_self, Int.reduceNeg, imp_self, Nat.reduceMul, Nat.le_refl, not_true_eq_false, not_false_eq_true, List.getElem?_nil, reduceCtorEq, true_or, or_true, Classical.not_not, implies_true, or_self, wI_0, wI_1, wI_m1, b2i_w, b2i_eq0, b2i_eq1, b2i_bool, nor_self, nx_pI, kd_pI, ln_pI, fI_pI, fL_pI, fR_pI, aI_pI, aL_pI, aR_pI, nx_pL, kd_pL, ln_pL, fI_pL, fL_pL, fR_pL, aI_pL, aL_pL, aR_pL, nx_pR, kd_pR, ln_pR, fI_pR, fL_pR, fR_pR, aI_pR, aL_pR, aR_pR, nx_qI, kd_qI, ln_qI, fI_qI, fL_qI, fR_qI, aI_qI, aL_qI, aR_qI, nx_qL, kd_qL, ln_qL, fI_qL, fL_qL, fR_qL, aI_qL, aL_qL, aR_qL, nx_qR, kd_qR, ln_qR, fI_qR, fL_qR, fR_qR, aI_qR, aL_qR, aR_qR, nx_mk, kd_mk, ln_mk, fI_mk, fL_mk, fR_mk, aI_mk, aL_mk, aR_mk, false_and, and_false, if_false, if_true, and_self, Int.reduceEq, Nat.reduceEqDiff, ite_self, MLay_pI, MLay_pL, MLay_qI, MLay_qL, ev_X12_init_408, ev_X12_init_409, ev_X12_init_411, ev_X12_init_413, xt_X12_init, xf_X12_init, k1, n1]
  exact ⟨⟨by decide, by decide⟩, h⟩

set_option maxRecDepth 20000 in
theorem ini_51 {Q : Option AV → Hp → Prop} {σ : Hp} {x1 : Option AV} (hn : nx σ = 63) (hk : kd σ 62 = 13) (h : Go M_X12_init Q 424 [some (vr 62), x1] [] (mkN σ 62 iniL 52) (52, 29633)) : Go M_X12_init Q 416 [some (vr 62), x1] [] (mkN σ 62 iniL 51) (51, 29533) := by
  have e : mkN σ 62 iniL (51 + 1) = pR (mk (mkN σ 62 iniL 51) 103 100) 1376 62 114 := by
    show pR _ _ _ (nx σ + ((51 : Nat) : Int)) = _
    rw [hn]; rfl
  rw [e] at h
  have k1 : kd (mkN σ 62 iniL 51) 62 = 13 := (kd_mkN σ 62 iniL (by omega) 51).trans hk
  have n1 : nx (mkN σ 62 iniL 51) = 114 := by rw [nx_mkN, hn]; rfl
  generalize mkN σ 62 iniL 51 = τ at h k1 n1 ⊢
  refine go_X12_init (ct := fun p => p == 424) 12 ?_
  simp only [oI, oL, oR, o1, lI, lL, lR, popN, catS, gv, stL, stL2, swt, cnd, spObj, List.getElem?_cons_zero, List.getElem?_cons_succ, List.getD_cons_zero, List.getD_cons_succ, List.set_cons_zero, List.set_cons_succ, List.nil_append, List.cons_append, Option.toList, Bool.or_false, Bool.false_or, Bool.or_true, Bool.true_or, Nat.reduceBEq, Nat.reduceAdd, Nat.reduceLT, Nat.reduceLeDiff, Int.reduceAdd, Int.reduceToNat, true_and, and_true, Fin.isValue, Fin.val_zero, Fin.val_one, Fin.val_two, Fin.reduceFinMk, eq_self, Int.reduceNeg, imp_self, Nat.reduceMul, Nat.le_refl, not_true_eq_false, not_false_eq_true, List.getElem?_nil, reduceCtorEq, true_or, or_true, Classical.not_not, implies_true, or_self, wI_0, wI_1, wI_m1, b2i_w, b2i_eq0, b2i_eq1, b2i_bool, nor_self, nx_pI, kd_pI, ln_pI, fI_pI, fL_pI, fR_pI, aI_pI, aL_pI, aR_pI, nx_pL, kd_pL, ln_pL, fI_pL, fL_pL, fR_pL, aI_pL, aL_pL, aR_pL, nx_pR, kd_pR, ln_pR, fI_pR, fL_pR, fR_pR, aI_pR, aL_pR, aR_pR, nx_qI, kd_qI, ln_qI, fI_qI, fL_qI, fR_qI, aI_qI, aL_qI, aR_qI, nx_qL, kd_qL, ln_qL, fI_qL, fL_qL, fR_qL, aI_qL, aL_qL, aR_qL, nx_qR, kd_qR, ln_qR, fI_qR, fL_qR, fR_qR, aI_qR, aL_qR, aR_qR, nx_mk, kd_mk, ln_mk, fI_mk, fL_mk, fR_mk, aI_mk, aL_mk, aR_mk, false_and, and_false, if_false, if_true, and_self, Int.reduceEq, Nat.reduceEqDiff, ite_self, MLay_pI, MLay_pL, MLay_qI, MLay_qL, ev_X12_init_416, ev_X12_init_417, ev_X12_init_419, ev_X12_init_421, xt_X12_init, xf_X12_init, k1, n1]
  exact ⟨⟨by decide, by decide⟩, h⟩

set_option maxRecDepth 20000 in
theorem ini_52 {Q : Option AV → Hp → Prop} {σ : Hp} {x1 : Option AV} (hn : nx σ = 63) (hk : kd σ 62 = 13) (h : Go M_X12_init Q 432 [some (vr 62), x1] [] (mkN σ 62 iniL 53) (53, 29733)) : Go M_X12_init Q 424 [some (vr 62), x1] [] (mkN σ 62 iniL 52) (52, 29633) := by
  have e : mkN σ 62 iniL (52 + 1) = pR (mk (mkN σ 62 iniL 52) 101 100) 1377 62 115 := by
    show pR _ _ _ (nx σ + ((52 : Nat) : Int)) = _
    rw [hn]; rfl
  rw [e] at h
  have k1 : kd (mkN σ 62 iniL 52) 62 = 13 := (kd_mkN σ 62 iniL (by omega) 52).trans hk
  have n1 : nx (mkN σ 62 iniL 52) = 115 := by rw [nx_mkN, hn]; rfl
  generalize mkN σ 62 iniL 52 = τ at h k1 n1 ⊢
  refine go_X12_init (ct := fun p => p == 432) 12 ?_
  simp only [oI, oL, oR, o1, lI, lL, lR, popN, catS, gv, stL, stL2, swt, cnd, spObj, List.getElem?_cons_zero, List.getElem?_cons_succ, List.getD_cons_zero, List.getD_cons_succ, List.set_cons_zero, List.set_cons_succ, List.nil_append, List.cons_append, Option.toList, Bool.or_false, Bool.false_or, Bool.or_true, Bool.true_or, Nat.reduceBEq, Nat.reduceAdd, Nat.reduceLT, Nat.reduceLeDiff, Int.reduceAdd, Int.reduceToNat, true_and, and_true, Fin.isValue, Fin.val_zero, Fin.val_one, Fin.val_two, Fin.reduceFinMk, eq_self, Int.reduceNeg, imp_self, Nat.reduceMul, Nat.le_refl, not_true_eq_false, not_false_eq_true, List.getElem?_nil, reduceCtorEq, true_or, or_true, Classical.not_not, implies_true, or_self, wI_0, wI_1, wI_m1, b2i_w, b2i_eq0, b2i_eq1, b2i_bool, nor_self, nx_pI, kd_pI, ln_pI, fI_pI, fL_pI, fR_pI, aI_pI, aL_pI, aR_pI, nx_pL, kd_pL, ln_pL, fI_pL, fL_pL, fR_pL, aI_pL, aL_pL, aR_pL, nx_pR, kd_pR, ln_pR, fI_pR, fL_pR, fR_pR, aI_pR, aL_pR, aR_pR, nx_qI, kd_qI, ln_qI, fI_qI, fL_qI, fR_qI, aI_qI, aL_qI, aR_qI, nx_qL, kd_qL, ln_qL, fI_qL, fL_qL, fR_qL, aI_qL, aL_qL, aR_qL, nx_qR, kd_qR, ln_qR, fI_qR, fL_qR, fR_qR, aI_qR, aL_qR, aR_qR, nx_mk, kd_mk, ln_mk, fI_mk, fL_mk, fR_mk, aI_mk, aL_mk, aR_mk, false_and, and_false, if_false, if_true, and_self, Int.reduceEq, Nat.reduceEqDiff, ite_self, MLay_pI, MLay_pL, MLay_qI, MLay_qL, ev_X12_init_424, ev_X12_init_425, ev_X12_init_427, ev_X12_init_429, xt_X12_init, xf_X12_init, k1, n1]
  exact ⟨⟨by decide, by decide⟩, h⟩

set_option maxRecDepth 20000 in
theorem ini_53 {Q : Option AV → Hp → Prop} {σ : Hp} {x1 : Option AV} (hn : nx σ = 63) (hk : kd σ 62 = 13) (h : Go M_X12_init Q 440 [some (vr 62), x1] [] (mkN σ 62 iniL 54) (54, 29833)) : Go M_X12_init Q 432 [some (vr 62), x1] [] (mkN σ 62 iniL 53) (53, 29733) := by
  have e : mkN σ 62 iniL (53 + 1) = pR (mk (mkN σ 62 iniL 53) 101 100) 1378 62 116 := by
    show pR _ _ _ (nx σ + ((53 : Nat) : Int)) = _
    rw [hn]; rfl
  rw [e] at h
  have k1 : kd (mkN σ 62 iniL 53) 62 = 13 := (kd_mkN σ 62 iniL (by omega) 53).trans hk
  have n1 : nx (mkN σ 62 iniL 53) = 116 := by rw [nx_mkN, hn]; rfl
  generalize mkN σ 62 iniL 53 = τ at h k1 n1 ⊢
  refine go_X12_init (ct := fun p => p == 440) 12 ?_
  simp only [oI, oL, oR, o1, lI, lL, lR, popN, catS, gv, stL, stL2, swt, cnd, spObj, List.getElem?_cons_zero, List.getElem?_cons_succ, List.getD_cons_zero, List.getD_cons_succ, List.set_cons_zero, List.set_cons_succ, List.nil_append, List.cons_append, Option.toList, Bool.or_false, Bool.false_or, Bool.or_true, Bool.true_or, Nat.reduceBEq, Nat.reduceAdd, Nat.reduceLT, Nat.reduceLeDiff, Int.reduceAdd, Int.reduceToNat, true_and, and_true, Fin.isValue, Fin.val_zero, Fin.val_one, Fin.val_two, Fin.reduceFinMk, eq_self, Int.reduceNeg, imp_self, Nat.reduceMul, Nat.le_refl, not_true_eq_false, not_false_eq_true, List.getElem?_nil, reduceCtorEq, true_or, or_true, Classical.not_not, implies_true, or_self, wI_0, wI_1, wI_m1, b2i_w, b2i_eq0, b2i_eq1, b2i_bool, nor_self, nx_pI, kd_pI, ln_pI, fI_pI, fL_pI, fR_pI, aI_pI, aL_pI, aR_pI, nx_pL, kd_pL, ln_pL, fI_pL, fL_pL, fR_pL, aI_pL, aL_pL, aR_pL, nx_pR, kd_pR, ln_pR, fI_pR, fL_pR, fR_pR, aI_pR, aL_pR, aR_pR, nx_qI, kd_qI, ln_qI, fI_qI, fL_qI, fR_qI, aI_qI, aL_qI, aR_qI, nx_qL, kd_qL, ln_qL, fI_qL, fL_qL, fR_qL, aI_qL, aL_qL, aR_qL, nx_qR, kd_qR, ln_qR, fI_qR, fL_qR, fR_qR, aI_qR, aL_qR, aR_qR, nx_mk, kd_mk, ln_mk, fI_mk, fL_mk, fR_mk, aI_mk, aL_mk, aR_mk, false_and, and_false, if_false, if_true, and_self, Int.reduceEq, Nat.reduceEqDiff, ite_self, MLay_pI, MLay_pL, MLay_qI, MLay_qL, ev_X12_init_432, ev_X12_init_433, ev_X12_init_435, ev_X12_init_437, xt_X12_init, xf_X12_init, k1, n1]
  exact ⟨⟨by decide, by decide⟩, h⟩

set_option maxRecDepth 20000 in
theorem ini_54 {Q : Option AV → Hp → Prop} {σ : Hp} {x1 : Option AV} (hn : nx σ = 63) (hk : kd σ 62 = 13) (h : Go M_X12_init Q 449 [some (vr 62), x1] [] (mkN σ 62 iniL 55) (55, 31833)) : Go M_X12_init Q 440 [some (vr 62), x1] [] (mkN σ 62 iniL 54) (54, 29833) := by
  have e : mkN σ 62 iniL (54 + 1) = pR (mk (mkN σ 62 iniL 54) 101 2000) 1379 62 117 := by
    show pR _ _ _ (nx σ + ((54 : Nat) : Int)) = _
    rw [hn]; rfl
  rw [e] at h
  have k1 : kd (mkN σ 62 iniL 54) 62 = 13 := (kd_mkN σ 62 iniL (by omega) 54).trans hk
  have n1 : nx (mkN σ 62 iniL 54) = 117 := by rw [nx_mkN, hn]; rfl
  generalize mkN σ 62 iniL 54 = τ at h k1 n1 ⊢
  refine go_X12_init (ct := fun p => p == 449) 12 ?_
  simp only [oI, oL, oR, o1, lI, lL, lR, popN, catS, gv, stL, stL2, swt, cnd, spObj, List.getElem?_cons_zero, List.getElem?_cons_succ, List.getD_cons_zero, List.getD_cons_succ, List.set_cons_zero, List.set_cons_succ, List.nil_append, List.cons_append, Option.toList, Bool.or_false, Bool.false_or, Bool.or_true, Bool.true_or, Nat.reduceBEq, Nat.reduceAdd, Nat.reduceLT, Nat.reduceLeDiff, Int.reduceAdd, Int.reduceToNat, true_and, and_true, Fin.isValue, Fin.val_zero, Fin.val_one, Fin.val_two, Fin.reduceFinMk, eq_self, Int.reduceNeg, imp_self, Nat.reduceMul, Nat.le_refl, not_true_eq_false, not_false_eq_true, List.getElem?_nil, reduceCtorEq, true_or, or_true, Classical.not_not, implies_true, or_self, wI_0, wI_1, wI_m1, b2i_w, b2i_eq0, b2i_eq1, b2i_bool, nor_self, nx_pI, kd_pI, ln_pI, fI_pI, fL_pI, fR_pI, aI_pI, aL_pI, aR_pI, nx_pL, kd_pL, ln_pL, fI_pL, fL_pL, fR_pL, aI_pL, aL_pL, aR_pL, nx_pR, kd_pR, ln_pR, fI_pR, fL_pR, fR_pR, aI_pR, aL_pR, aR_pR, nx_qI, kd_qI, ln_qI, fI_qI, fL_qI, fR_qI, aI_qI, aL_qI, aR_qI, nx_qL, kd_qL, ln_qL, fI_qL, fL_qL, fR_qL, aI_qL, aL_qL, aR_qL, nx_qR, kd_qR, ln_qR, fI_qR, fL_qR, fR_qR, aI_qR, aL_qR, aR_qR, nx_mk, kd_mk, ln_mk, fI_mk, fL_mk, fR_mk, aI_mk, aL_mk, aR_mk, false_and, and_false, if_false, if_true, and_self, Int.reduceEq, Nat.reduceEqDiff, ite_self, MLay_pI, MLay_pL, MLay_qI, MLay_qL, ev_X12_init_440, ev_X12_init_441, ev_X12_init_444, ev_X12_init_446, xt_X12_init, xf_X12_init, k1, n1]
  exact ⟨⟨by decide, by decide⟩, h⟩

set_option maxRecDepth 20000 in
theorem ini_55 {Q : Option AV → Hp → Prop} {σ : Hp} {x1 : Option AV} (hn : nx σ = 63) (hk : kd σ 62 = 13) (h : Go M_X12_init Q 458 [some (vr 62), x1] [] (mkN σ 62 iniL 56) (56, 32033)) : Go M_X12_init Q 449 [some (vr 62), x1] [] (mkN σ 62 iniL 55) (55, 31833) := by
  have e : mkN σ 62 iniL (55 + 1) = pR (mk (mkN σ 62 iniL 55) 101 200) 1381 62 118 := by
    show pR _ _ _ (nx σ + ((55 : Nat) : Int)) = _
    rw [hn]; rfl
  rw [e] at h
  have k1 : kd (mkN σ 62 iniL 55) 62 = 13 := (kd_mkN σ 62 iniL (by omega) 55).trans hk
  have n1 : nx (mkN σ 62 iniL 55) = 118 := by rw [nx_mkN, hn]; rfl
  generalize mkN σ 62 iniL 55 = τ at h k1 n1 ⊢
  refine go_X12_init (ct := fun p => p == 458) 12 ?_
  simp only [oI, oL, oR, o1, lI, lL, lR, popN, catS, gv, stL, stL2, swt, cnd, spObj, List.getElem?_cons_zero, List.getElem?_cons_succ, List.getD_cons_zero, List.getD_cons_succ, List.set_cons_zero, List.set_cons_succ, List.nil_append, List.cons_append, Option.toList, Bool.or_false, Bool.false_or, Bool.or_true, Bool.true_or, Nat.reduceBEq, Nat.reduceAdd, Nat.reduceLT, Nat.reduceLeDiff, Int.reduceAdd, Int.reduceToNat, true_and, and_true, Fin.isValue, Fin.val_zero, Fin.val_one, Fin.val_two, Fin.reduceFinMk, eq_self, Int.reduceNeg, imp_self, Nat.reduceMul, Nat.le_refl, not_true_eq_false, not_false_eq_true, List.getElem?_nil, reduceCtorEq, true_or, or_true, Classical.not_not, implies_true, or_self, wI_0, wI_1, wI_m1, b2i_w, b2i_eq0, b2i_eq1, b2i_bool, nor_self, nx_pI, kd_pI, ln_pI, fI_pI, fL_pI, fR_pI, aI_pI, aL_pI, aR_pI, nx_pL, kd_pL, ln_pL, fI_pL, fL_pL, fR_pL, aI_pL, aL_pL, aR_pL, nx_pR, kd_pR, ln_pR, fI_pR, fL_pR, fR_pR, aI_pR, aL_pR, aR_pR, nx_qI, kd_qI, ln_qI, fI_qI, fL_qI, fR_qI, aI_qI, aL_qI, aR_qI, nx_qL, kd_qL, ln_qL, fI_qL, fL_qL, fR_qL, aI_qL, aL_qL, aR_qL, nx_qR, kd_qR, ln_qR, fI_qR, fL_qR, fR_qR, aI_qR, aL_qR, aR_qR, nx_mk, kd_mk, ln_mk, fI_mk, fL_mk, fR_mk, aI_mk, aL_mk, aR_mk, false_and, and_false, if_false, if_true, and_self, Int.reduceEq, Nat.reduceEqDiff, ite_self, MLay_pI, MLay_pL, MLay_qI, MLay_qL, ev_X12_init_449, ev_X12_init_450, ev_X12_init_453, ev_X12_init_455, xt_X12_init, xf_X12_init, k1, n1]
  exact ⟨⟨by decide, by decide⟩, h⟩

set_option maxRecDepth 20000 in
theorem ini_56 {Q : Option AV → Hp → Prop} {σ : Hp} {x1 : Option AV} (hn : nx σ = 63) (hk : kd σ 62 = 13) (h : Go M_X12_init Q 467 [some (vr 62), x1] [] (mkN σ 62 iniL 57) (57, 32233)) : Go M_X12_init Q 458 [some (vr 62), x1] [] (mkN σ 62 iniL 56) (56, 32033) := by
  have e : mkN σ 62 iniL (56 + 1) = pR (mk (mkN σ 62 iniL 56) 103 200) 1382 62 119 := by
    show pR _ _ _ (nx σ + ((56 : Nat) : Int)) = _
    rw [hn]; rfl
  rw [e] at h
  have k1 : kd (mkN σ 62 iniL 56) 62 = 13 := (kd_mkN σ 62 iniL (by omega) 56).trans hk
  have n1 : nx (mkN σ 62 iniL 56) = 119 := by rw [nx_mkN, hn]; rfl
  generalize mkN σ 62 iniL 56 = τ at h k1 n1 ⊢
  refine go_X12_init (ct := fun p => p == 467) 12 ?_
  simp only [oI, oL, oR, o1, lI, lL, lR, popN, catS, gv, stL, stL2, swt, cnd, spObj, List.getElem?_cons_zero, List.getElem?_cons_succ, List.getD_cons_zero, List.getD_cons_succ, List.set_cons_zero, List.set_cons_succ, List.nil_append, List.cons_append, Option.toList, Bool.or_false, Bool.false_or, Bool.or_true, Bool.true_or, Nat.reduceBEq, Nat.reduceAdd, Nat.reduceLT, Nat.reduceLeDiff, Int.reduceAdd, Int.reduceToNat, true_and, and_true, Fin.isValue, Fin.val_zero, Fin.val_one, Fin.val_two, Fin.reduceFinMk, eq_self, Int.reduceNeg, imp_self, Nat.reduceMul, Nat.le_refl, not_true_eq_false, not_false_eq_true, List.getElem?_nil, reduceCtorEq, true_or, or_true, Classical.not_not, implies_true, or_self, wI_0, wI_1, wI_m1, b2i_w, b2i_eq0, b2i_eq1, b2i_bool, nor_self, nx_pI, kd_pI, ln_pI, fI_pI, fL_pI, fR_pI, aI_pI, aL_pI, aR_pI, nx_pL, kd_pL, ln_pL, fI_pL, fL_pL, fR_pL, aI_pL, aL_pL, aR_pL, nx_pR, kd_pR, ln_pR, fI_pR, fL_pR, fR_pR, aI_pR, aL_pR, aR_pR, nx_qI, kd_qI, ln_qI, fI_qI, fL_qI, fR_qI, aI_qI, aL_qI, aR_qI, nx_qL, kd_qL, ln_qL, fI_qL, fL_qL, fR_qL, aI_qL, aL_qL, aR_qL, nx_qR, kd_qR, ln_qR, fI_qR, fL_qR, fR_qR, aI_qR, aL_qR, aR_qR, nx_mk, kd_mk, ln_mk, fI_mk, fL_mk, fR_mk, aI_mk, aL_mk, aR_mk, false_and, and_false, if_false, if_true, and_self, Int.reduceEq, Nat.reduceEqDiff, ite_self, MLay_pI, MLay_pL, MLay_qI, MLay_qL, ev_X12_init_458, ev_X12_init_459, ev_X12_init_462, ev_X12_init_464, xt_X12_init, xf_X12_init, k1, n1]
  exact ⟨⟨by decide, by decide⟩, h⟩

set_option maxRecDepth 20000 in
theorem ini_57 {Q : Option AV → Hp → Prop} {σ : Hp} {x1 : Option AV} (hn : nx σ = 63) (hk : kd σ 62 = 13) (h : Go M_X12_init Q 476 [some (vr 62), x1] [] (mkN σ 62 iniL 58) (58, 32433)) : Go M_X12_init Q 467 [some (vr 62), x1] [] (mkN σ 62 iniL 57) (57, 32233) := by
  have e : mkN σ 62 iniL (57 + 1) = pR (mk (mkN σ 62 iniL 57) 101 200) 1383 62 120 := by
    show pR _ _ _ (nx σ + ((57 : Nat) : Int)) = _
    rw [hn]; rfl
  rw [e] at h
  have k1 : kd (mkN σ 62 iniL 57) 62 = 13 := (kd_mkN σ 62 iniL (by omega) 57).trans hk
  have n1 : nx (mkN σ 62 iniL 57) = 120 := by rw [nx_mkN, hn]; rfl
  generalize mkN σ 62 iniL 57 = τ at h k1 n1 ⊢
  refine go_X12_init (ct := fun p => p == 476) 12 ?_
  simp only [oI, oL, oR, o1, lI, lL, lR, popN, catS, gv, stL, stL2, swt, cnd, spObj, List.getElem?_cons_zero, List.getElem?_cons_succ, List.getD_cons_zero, List.getD_cons_succ, List.set_cons_zero, List.set_cons_succ, List.nil_append, List.cons_append, Option.toList, Bool.or_false, Bool.false_or, Bool.or_true, Bool.true_or, Nat.reduceBEq, Nat.reduceAdd, Nat.reduceLT, Nat.reduceLeDiff, Int.reduceAdd, Int.reduceToNat, true_and, and_true, Fin.isValue, Fin.val_zero, Fin.val_one, Fin.val_two, Fin.reduceFinMk, eq_self, Int.reduceNeg, imp_self, Nat.reduceMul, Nat.le_refl, not_true_eq_false, not_false_eq_true, List.getElem?_nil, reduceCtorEq, true_or, or_true, Classical.not_not, implies_true, or_self, wI_0, wI_1, wI_m1, b2i_w, b2i_eq0, b2i_eq1, b2i_bool, nor_self, nx_pI, kd_pI, ln_pI, fI_pI, fL_pI, fR_pI, aI_pI, aL_pI, aR_pI, nx_pL, kd_pL, ln_pL, fI_pL, fL_pL, fR_pL, aI_pL, aL_pL, aR_pL, nx_pR, kd_pR, ln_pR, fI_pR, fL_pR, fR_pR, aI_pR, aL_pR, aR_pR, nx_qI, kd_qI, ln_qI, fI_qI, fL_qI, fR_qI, aI_qI, aL_qI, aR_qI, nx_qL, kd_qL, ln_qL, fI_qL, fL_qL, fR_qL, aI_qL, aL_qL, aR_qL, nx_qR, kd_qR, ln_qR, fI_qR, fL_qR, fR_qR, aI_qR, aL_qR, aR_qR, nx_mk, kd_mk, ln_mk, fI_mk, fL_mk, fR_mk, aI_mk, aL_mk, aR_mk, false_and, and_false, if_false, if_true, and_self, Int.reduceEq, Nat.reduceEqDiff, ite_self, MLay_pI, MLay_pL, MLay_qI, MLay_qL, ev_X12_init_467, ev_X12_init_468, ev_X12_init_471, ev_X12_init_473, xt_X12_init, xf_X12_init, k1, n1]
  exact ⟨⟨by decide, by decide⟩, h⟩

set_option maxRecDepth 20000 in
theorem inc_0 {Q : Option AV → Hp → Prop} {σ : Hp} {x1 : Option AV} (hn : nx σ = 63) (hk : kd σ 62 = 13) (h : Go M_X12_init Q 85 [some (vr 62), x1] [] (mkN σ 62 iniL 10) (10, 768)) : Go M_X12_init Q 4 [some (vr 62), x1] [] (mkN σ 62 iniL 0) (0, 0) :=
  ini_0 hn hk <| ini_1 hn hk <| ini_2 hn hk <| ini_3 hn hk <| ini_4 hn hk <| ini_5 hn hk <| ini_6 hn hk <| ini_7 hn hk <| ini_8 hn hk <| ini_9 hn hk h

set_option maxRecDepth 20000 in
theorem inc_10 {Q : Option AV → Hp → Prop} {σ : Hp} {x1 : Option AV} (hn : nx σ = 63) (hk : kd σ 62 = 13) (h : Go M_X12_init Q 165 [some (vr 62), x1] [] (mkN σ 62 iniL 20) (20, 4144)) : Go M_X12_init Q 85 [some (vr 62), x1] [] (mkN σ 62 iniL 10) (10, 768) :=
  ini_10 hn hk <| ini_11 hn hk <| ini_12 hn hk <| ini_13 hn hk <| ini_14 hn hk <| ini_15 hn hk <| ini_16 hn hk <| ini_17 hn hk <| ini_18 hn hk <| ini_19 hn hk h

set_option maxRecDepth 20000 in
theorem inc_20 {Q : Option AV → Hp → Prop} {σ : Hp} {x1 : Option AV} (hn : nx σ = 63) (hk : kd σ 62 = 13) (h : Go M_X12_init Q 246 [some (vr 62), x1] [] (mkN σ 62 iniL 30) (30, 25873)) : Go M_X12_init Q 165 [some (vr 62), x1] [] (mkN σ 62 iniL 20) (20, 4144) :=
  ini_20 hn hk <| ini_21 hn hk <| ini_22 hn hk <| ini_23 hn hk <| ini_24 hn hk <| ini_25 hn hk <| ini_26 hn hk <| ini_27 hn hk <| ini_28 hn hk <| ini_29 hn hk h

set_option maxRecDepth 20000 in
theorem inc_30 {Q : Option AV → Hp → Prop} {σ : Hp} {x1 : Option AV} (hn : nx σ = 63) (hk : kd σ 62 = 13) (h : Go M_X12_init Q 328 [some (vr 62), x1] [] (mkN σ 62 iniL 40) (40, 29089)) : Go M_X12_init Q 246 [some (vr 62), x1] [] (mkN σ 62 iniL 30) (30, 25873) :=
  ini_30 hn hk <| ini_31 hn hk <| ini_32 hn hk <| ini_33 hn hk <| ini_34 hn hk <| ini_35 hn hk <| ini_36 hn hk <| ini_37 hn hk <| ini_38 hn hk <| ini_39 hn hk h

set_option maxRecDepth 20000 in
theorem inc_40 {Q : Option AV → Hp → Prop} {σ : Hp} {x1 : Option AV} (hn : nx σ = 63) (hk : kd σ 62 = 13) (h : Go M_X12_init Q 408 [some (vr 62), x1] [] (mkN σ 62 iniL 50) (50, 29433)) : Go M_X12_init Q 328 [some (vr 62), x1] [] (mkN σ 62 iniL 40) (40, 29089) :=
  ini_40 hn hk <| ini_41 hn hk <| ini_42 hn hk <| ini_43 hn hk <| ini_44 hn hk <| ini_45 hn hk <| ini_46 hn hk <| ini_47 hn hk <| ini_48 hn hk <| ini_49 hn hk h

set_option maxRecDepth 20000 in
theorem inc_50 {Q : Option AV → Hp → Prop} {σ : Hp} {x1 : Option AV} (hn : nx σ = 63) (hk : kd σ 62 = 13) (h : Go M_X12_init Q 476 [some (vr 62), x1] [] (mkN σ 62 iniL 58) (58, 32433)) : Go M_X12_init Q 408 [some (vr 62), x1] [] (mkN σ 62 iniL 50) (50, 29433) :=
  ini_50 hn hk <| ini_51 hn hk <| ini_52 hn hk <| ini_53 hn hk <| ini_54 hn hk <| ini_55 hn hk <| ini_56 hn hk <| ini_57 hn hk h

set_option maxRecDepth 20000 in
theorem ini_478 {Q : Option AV → Hp → Prop} {ρ : Hp} {kk : Nat × Nat} (hk : kd ρ 62 = 13) (hf : fR ρ 1318 62 = 78) (hk2 : kd ρ 78 = 101) (hl : ln ρ 78 = 4) (h : ∀ x1, Go M_X12_init Q 498 [some (vr 62), x1] [] (wrN ρ 78 (-1000) 4) kk) : ∀ (m k : Nat), k + m = 4 → Go M_X12_init Q 478 [some (vr 62), some (vi k)] [] (wrN ρ 78 (-1000) k) kk := by
  intro m
  induction m with
  | zero =>
    intro k hk3
    have e : k = 4 := by omega
    subst e
    have h := h (some (vi (4 : Nat)))
    refine go_X12_init (ct := fun p => p == 498 || p == 483) 10 ?_
    simp only [oI, oL, oR, o1, lI, lL, lR, popN, catS, gv, stL, stL2, swt, cnd, spObj, List.getElem?_cons_zero, List.getElem?_cons_succ, List.getD_cons_zero, List.getD_cons_succ, List.set_cons_zero, List.set_cons_succ, List.nil_append, List.cons_append, Option.toList, Bool.or_false, Bool.false_or, Bool.or_true, Bool.true_or, Nat.reduceBEq, Nat.reduceAdd, Nat.reduceLT, Nat.reduceLeDiff, Int.reduceAdd, Int.reduceToNat, true_and, and_true, Fin.isValue, Fin.val_zero, Fin.val_one, Fin.val_two, Fin.reduceFinMk, eq_self, Int.reduceNeg, imp_self, Nat.reduceMul, Nat.le_refl, not_true_eq_false, not_false_eq_true, List.getElem?_nil, reduceCtorEq, true_or, or_true, Classical.not_not, implies_true, or_self, wI_0, wI_1, wI_m1, b2i_w, b2i_eq0, b2i_eq1, b2i_bool, nor_self, nx_pI, kd_pI, ln_pI, fI_pI, fL_pI, fR_pI, aI_pI, aL_pI, aR_pI, nx_pL, kd_pL, ln_pL, fI_pL, fL_pL, fR_pL, aI_pL, aL_pL, aR_pL, nx_pR, kd_pR, ln_pR, fI_pR, fL_pR, fR_pR, aI_pR, aL_pR, aR_pR, nx_qI, kd_qI, ln_qI, fI_qI, fL_qI, fR_qI, aI_qI, aL_qI, aR_qI, nx_qL, kd_qL, ln_qL, fI_qL, fL_qL, fR_qL, aI_qL, aL_qL, aR_qL, nx_qR, kd_qR, ln_qR, fI_qR, fL_qR, fR_qR, aI_qR, aL_qR, aR_qR, nx_mk, kd_mk, ln_mk, fI_mk, fL_mk, fR_mk, aI_mk, aL_mk, aR_mk, false_and, and_false, if_false, if_true, and_self, Int.reduceEq, Nat.reduceEqDiff, ite_self, MLay_pI, MLay_pL, MLay_qI, MLay_qL, ev_X12_init_478, ev_X12_init_479, ev_X12_init_480, xt_X12_init, xf_X12_init, Int.cast_ofNat_Int, Int.le_refl, forall_const]
    exact ⟨h, fun z => z.elim⟩
  | succ m ih =>
    intro k hk3
    have ih := ih (k + 1) (by omega)
    have c : ¬ (4 : Int) ≤ k := by omega
    have hw : wI (k : Int) = k := wI_nat (by omega)
    have hw4 : wI 4 = 4 := by decide
    have hr : (0 : Int) ≤ k ∧ (k : Int) < 4 := by omega
    unfold wrN at ih
    rw [show ((k + 1 : Nat) : Int) = k + 1 by omega] at ih
    refine go_X12_init (ct := fun p => p == 498 || p == 478) 20 ?_
    simp only [oI, oL, oR, o1, lI, lL, lR, popN, catS, gv, stL, stL2, swt, cnd, spObj, List.getElem?_cons_zero, List.getElem?_cons_succ, List.getD_cons_zero, List.getD_cons_succ, List.set_cons_zero, List.set_cons_succ, List.nil_append, List.cons_append, Option.toList, Bool.or_false, Bool.false_or, Bool.or_true, Bool.true_or, Nat.reduceBEq, Nat.reduceAdd, Nat.reduceLT, Nat.reduceLeDiff, Int.reduceAdd, Int.reduceToNat, true_and, and_true, Fin.isValue, Fin.val_zero, Fin.val_one, Fin.val_two, Fin.reduceFinMk, eq_self, Int.reduceNeg, imp_self, Nat.reduceMul, Nat.le_refl, not_true_eq_false, not_false_eq_true, List.getElem?_nil, reduceCtorEq, true_or, or_true, Classical.not_not, implies_true, or_self, wI_0, wI_1, wI_m1, b2i_w, b2i_eq0, b2i_eq1, b2i_bool, nor_self, nx_pI, kd_pI, ln_pI, fI_pI, fL_pI, fR_pI, aI_pI, aL_pI, aR_pI, nx_pL, kd_pL, ln_pL, fI_pL, fL_pL, fR_pL, aI_pL, aL_pL, aR_pL, nx_pR, kd_pR, ln_pR, fI_pR, fL_pR, fR_pR, aI_pR, aL_pR, aR_pR, nx_qI, kd_qI, ln_qI, fI_qI, fL_qI, fR_qI, aI_qI, aL_qI, aR_qI, nx_qL, kd_qL, ln_qL, fI_qL, fL_qL, fR_qL, aI_qL, aL_qL, aR_qL, nx_qR, kd_qR, ln_qR, fI_qR, fL_qR, fR_qR, aI_qR, aL_qR, aR_qR, nx_mk, kd_mk, ln_mk, fI_mk, fL_mk, fR_mk, aI_mk, aL_mk, aR_mk, false_and, and_false, if_false, if_true, and_self, Int.reduceEq, Nat.reduceEqDiff, ite_self, MLay_pI, MLay_pL, MLay_qI, MLay_qL, ev_X12_init_478, ev_X12_init_479, ev_X12_init_480, ev_X12_init_483, ev_X12_init_484, ev_X12_init_487, ev_X12_init_488, ev_X12_init_491, ev_X12_init_492, ev_X12_init_495, xt_X12_init, xf_X12_init, kd_wrN, fR_wrN, ln_wrN, hk, hf, hk2, hl, hw, hw4, c, hr, false_imp_iff, true_imp_iff]
    exact ih

set_option maxRecDepth 20000 in
theorem ini_500 {Q : Option AV → Hp → Prop} {ρ : Hp} {kk : Nat × Nat} (hk : kd ρ 62 = 13) (hf : fR ρ 1310 62 = 70) (hk2 : kd ρ 70 = 101) (hl : ln ρ 70 = 32) (h : ∀ x1, Go M_X12_init Q 519 [some (vr 62), x1] [] (wrN ρ 70 (-1) 32) kk) : ∀ (m k : Nat), k + m = 32 → Go M_X12_init Q 500 [some (vr 62), some (vi k)] [] (wrN ρ 70 (-1) k) kk := by
  intro m
  induction m with
  | zero =>
    intro k hk3
    have e : k = 32 := by omega
    subst e
    have h := h (some (vi (32 : Nat)))
    refine go_X12_init (ct := fun p => p == 519 || p == 506) 10 ?_
    simp only [oI, oL, oR, o1, lI, lL, lR, popN, catS, gv, stL, stL2, swt, cnd, spObj, List.getElem?_cons_zero, List.getElem?_cons_succ, List.getD_cons_zero, List.getD_cons_succ, List.set_cons_zero, List.set_cons_succ, List.nil_append, List.cons_append, Option.toList, Bool.or_false, Bool.false_or, Bool.or_true, Bool.true_or, Nat.reduceBEq, Nat.reduceAdd, Nat.reduceLT, Nat.reduceLeDiff, Int.reduceAdd, Int.reduceToNat, true_and, and_true, Fin.isValue, Fin.val_zero, Fin.val_one, Fin.val_two, Fin.reduceFinMk, eq_self, Int.reduceNeg, imp_self, Nat.reduceMul, Nat.le_refl, not_true_eq_false, not_false_eq_true, List.getElem?_nil, reduceCtorEq, true_or, or_true, Classical.not_not, implies_true, or_self, wI_0, wI_1, wI_m1, b2i_w, b2i_eq0, b2i_eq1, b2i_bool, nor_self, nx_pI, kd_pI, ln_pI, fI_pI, fL_pI, fR_pI, aI_pI, aL_pI, aR_pI, nx_pL, kd_pL, ln_pL, fI_pL, fL_pL, fR_pL, aI_pL, aL_pL, aR_pL, nx_pR, kd_pR, ln_pR, fI_pR, fL_pR, fR_pR, aI_pR, aL_pR, aR_pR, nx_qI, kd_qI, ln_qI, fI_qI, fL_qI, fR_qI, aI_qI, aL_qI, aR_qI, nx_qL, kd_qL, ln_qL, fI_qL, fL_qL, fR_qL, aI_qL, aL_qL, aR_qL, nx_qR, kd_qR, ln_qR, fI_qR, fL_qR, fR_qR, aI_qR, aL_qR, aR_qR, nx_mk, kd_mk, ln_mk, fI_mk, fL_mk, fR_mk, aI_mk, aL_mk, aR_mk, false_and, and_false, if_false, if_true, and_self, Int.reduceEq, Nat.reduceEqDiff, ite_self, MLay_pI, MLay_pL, MLay_qI, MLay_qL, ev_X12_init_500, ev_X12_init_501, ev_X12_init_503, xt_X12_init, xf_X12_init, Int.cast_ofNat_Int, Int.le_refl, forall_const]
    exact ⟨h, fun z => z.elim⟩
  | succ m ih =>
    intro k hk3
    have ih := ih (k + 1) (by omega)
    have c : ¬ (32 : Int) ≤ k := by omega
    have hw : wI (k : Int) = k := wI_nat (by omega)
    have hw4 : wI 32 = 32 := by decide
    have hr : (0 : Int) ≤ k ∧ (k : Int) < 32 := by omega
    unfold wrN at ih
    rw [show ((k + 1 : Nat) : Int) = k + 1 by omega] at ih
    refine go_X12_init (ct := fun p => p == 519 || p == 500) 20 ?_
    simp only [oI, oL, oR, o1, lI, lL, lR, popN, catS, gv, stL, stL2, swt, cnd, spObj, List.getElem?_cons_zero, List.getElem?_cons_succ, List.getD_cons_zero, List.getD_cons_succ, List.set_cons_zero, List.set_cons_succ, List.nil_append, List.cons_append, Option.toList, Bool.or_false, Bool.false_or, Bool.or_true, Bool.true_or, Nat.reduceBEq, Nat.reduceAdd, Nat.reduceLT, Nat.reduceLeDiff, Int.reduceAdd, Int.reduceToNat, true_and, and_true, Fin.isValue, Fin.val_zero, Fin.val_one, Fin.val_two, Fin.reduceFinMk, eq_self, Int.reduceNeg, imp_self, Nat.reduceMul, Nat.le_refl, not_true_eq_false, not_false_eq_true, List.getElem?_nil, reduceCtorEq, true_or, or_true, Classical.not_not, implies_true, or_self, wI_0, wI_1, wI_m1, b2i_w, b2i_eq0, b2i_eq1, b2i_bool, nor_self, nx_pI, kd_pI, ln_pI, fI_pI, fL_pI, fR_pI, aI_pI, aL_pI, aR_pI, nx_pL, kd_pL, ln_pL, fI_pL, fL_pL, fR_pL, aI_pL, aL_pL, aR_pL, nx_pR, kd_pR, ln_pR, fI_pR, fL_pR, fR_pR, aI_pR, aL_pR, aR_pR, nx_qI, kd_qI, ln_qI, fI_qI, fL_qI, fR_qI, aI_qI, aL_qI, aR_qI, nx_qL, kd_qL, ln_qL, fI_qL, fL_qL, fR_qL, aI_qL, aL_qL, aR_qL, nx_qR, kd_qR, ln_qR, fI_qR, fL_qR, fR_qR, aI_qR, aL_qR, aR_qR, nx_mk, kd_mk, ln_mk, fI_mk, fL_mk, fR_mk, aI_mk, aL_mk, aR_mk, false_and, and_false, if_false, if_true, and_self, Int.reduceEq, Nat.reduceEqDiff, ite_self, MLay_pI, MLay_pL, MLay_qI, MLay_qL, ev_X12_init_500, ev_X12_init_501, ev_X12_init_503, ev_X12_init_506, ev_X12_init_507, ev_X12_init_510, ev_X12_init_511, ev_X12_init_512, ev_X12_init_513, ev_X12_init_516, xt_X12_init, xf_X12_init, kd_wrN, fR_wrN, ln_wrN, hk, hf, hk2, hl, hw, hw4, c, hr, false_imp_iff, true_imp_iff]
    exact ih

theorem iniL_len : iniL.length = 58 := by decide +kernel
theorem iniL_nd : ∀ a b : Nat, a < b → b < iniL.length → ¬ (iniL.getD a (0, 0, 0)).1 = (iniL.getD b (0, 0, 0)).1 := by
  intro a b h1 h2
  rw [iniL_len] at h2
  have : ∀ b : Fin 58, ∀ a : Fin 58, a < b → ¬ (iniL.getD a (0, 0, 0)).1 = (iniL.getD b (0, 0, 0)).1 := by decide +kernel
  exact this ⟨b, h2⟩ ⟨a, Nat.lt_trans h1 h2⟩ h1
theorem mkN_lk {σ : Hp} (hn : nx σ = 63) : fR (mkN σ 62 iniL 58) 1318 62 = 78 ∧ kd (mkN σ 62 iniL 58) 78 = 101 ∧ ln (mkN σ 62 iniL 58) 78 = 4 := by
  have e : iniL.getD 15 (0, 0, 0) = (1318, 101, 4) := by decide +kernel
  have h1 := fR_mkN_at σ 62 iniL iniL_nd 15 58 (by decide) (by rw [iniL_len]; exact Nat.le_refl _)
  have h2 := kd_mkN_at σ 62 iniL 15 58 (by decide)
  rw [e, hn] at h1
  rw [e, hn] at h2
  exact ⟨h1, h2⟩
theorem mkN_bg {σ : Hp} (hn : nx σ = 63) : fR (mkN σ 62 iniL 58) 1310 62 = 70 ∧ kd (mkN σ 62 iniL 58) 70 = 101 ∧ ln (mkN σ 62 iniL 58) 70 = 32 := by
  have e : iniL.getD 7 (0, 0, 0) = (1310, 101, 32) := by decide +kernel
  have h1 := fR_mkN_at σ 62 iniL iniL_nd 7 58 (by decide) (by rw [iniL_len]; exact Nat.le_refl _)
  have h2 := kd_mkN_at σ 62 iniL 7 58 (by decide)
  rw [e, hn] at h1
  rw [e, hn] at h2
  exact ⟨h1, h2⟩

set_option maxRecDepth 20000 in
theorem ini_519 {Q : Option AV → Hp → Prop} {ρ : Hp} {x1 : Option AV} (hk6 : kd ρ 62 = 13) (h : Q none (pI (pI (pI ρ 1341 62 3) 1342 62 40) 1321 62 (-1))) : Go M_X12_init Q 519 [some (vr 62), x1] [] ρ (58, 32433) := by
  refine go_X12_init (ct := fun p => p == 0) 20 ?_
  simp only [oI, oL, oR, o1, lI, lL, lR, popN, catS, gv, stL, stL2, swt, cnd, spObj, List.getElem?_cons_zero, List.getElem?_cons_succ, List.getD_cons_zero, List.getD_cons_succ, List.set_cons_zero, List.set_cons_succ, List.nil_append, List.cons_append, Option.toList, Bool.or_false, Bool.false_or, Bool.or_true, Bool.true_or, Nat.reduceBEq, Nat.reduceAdd, Nat.reduceLT, Nat.reduceLeDiff, Int.reduceAdd, Int.reduceToNat, true_and, and_true, Fin.isValue, Fin.val_zero, Fin.val_one, Fin.val_two, Fin.reduceFinMk, eq_self, Int.reduceNeg, imp_self, Nat.reduceMul, Nat.le_refl, not_true_eq_false, not_false_eq_true, List.getElem?_nil, reduceCtorEq, true_or, or_true, Classical.not_not, implies_true, or_self, wI_0, wI_1, wI_m1, b2i_w, b2i_eq0, b2i_eq1, b2i_bool, nor_self, nx_pI, kd_pI, ln_pI, fI_pI, fL_pI, fR_pI, aI_pI, aL_pI, aR_pI, nx_pL, kd_pL, ln_pL, fI_pL, fL_pL, fR_pL, aI_pL, aL_pL, aR_pL, nx_pR, kd_pR, ln_pR, fI_pR, fL_pR, fR_pR, aI_pR, aL_pR, aR_pR, nx_qI, kd_qI, ln_qI, fI_qI, fL_qI, fR_qI, aI_qI, aL_qI, aR_qI, nx_qL, kd_qL, ln_qL, fI_qL, fL_qL, fR_qL, aI_qL, aL_qL, aR_qL, nx_qR, kd_qR, ln_qR, fI_qR, fL_qR, fR_qR, aI_qR, aL_qR, aR_qR, nx_mk, kd_mk, ln_mk, fI_mk, fL_mk, fR_mk, aI_mk, aL_mk, aR_mk, false_and, and_false, if_false, if_true, and_self, Int.reduceEq, Nat.reduceEqDiff, ite_self, MLay_pI, MLay_pL, MLay_qI, MLay_qL, ev_X12_init_519, ev_X12_init_520, ev_X12_init_521, ev_X12_init_524, ev_X12_init_525, ev_X12_init_527, ev_X12_init_530, ev_X12_init_531, ev_X12_init_532, ev_X12_init_535, xt_X12_init, xf_X12_init, hk6]
  exact h

set_option maxRecDepth 20000 in
theorem ini_498 {Q : Option AV → Hp → Prop} {ρ : Hp} {x1 : Option AV} (h : Go M_X12_init Q 500 [some (vr 62), some (vi 0)] [] ρ (58, 32433)) : Go M_X12_init Q 498 [some (vr 62), x1] [] ρ (58, 32433) := by
  refine go_X12_init (ct := fun p => p == 500) 10 ?_
  simp only [oI, oL, oR, o1, lI, lL, lR, popN, catS, gv, stL, stL2, swt, cnd, spObj, List.getElem?_cons_zero, List.getElem?_cons_succ, List.getD_cons_zero, List.getD_cons_succ, List.set_cons_zero, List.set_cons_succ, List.nil_append, List.cons_append, Option.toList, Bool.or_false, Bool.false_or, Bool.or_true, Bool.true_or, Nat.reduceBEq, Nat.reduceAdd, Nat.reduceLT, Nat.reduceLeDiff, Int.reduceAdd, Int.reduceToNat, true_and, and_true, Fin.isValue, Fin.val_zero, Fin.val_one, Fin.val_two, Fin.reduceFinMk, eq_self, Int.reduceNeg, imp_self, Nat.reduceMul, Nat.le_refl, not_true_eq_false, not_false_eq_true, List.getElem?_nil, reduceCtorEq, true_or, or_true, Classical.not_not, implies_true, or_self, wI_0, wI_1, wI_m1, b2i_w, b2i_eq0, b2i_eq1, b2i_bool, nor_self, nx_pI, kd_pI, ln_pI, fI_pI, fL_pI, fR_pI, aI_pI, aL_pI, aR_pI, nx_pL, kd_pL, ln_pL, fI_pL, fL_pL, fR_pL, aI_pL, aL_pL, aR_pL, nx_pR, kd_pR, ln_pR, fI_pR, fL_pR, fR_pR, aI_pR, aL_pR, aR_pR, nx_qI, kd_qI, ln_qI, fI_qI, fL_qI, fR_qI, aI_qI, aL_qI, aR_qI, nx_qL, kd_qL, ln_qL, fI_qL, fL_qL, fR_qL, aI_qL, aL_qL, aR_qL, nx_qR, kd_qR, ln_qR, fI_qR, fL_qR, fR_qR, aI_qR, aL_qR, aR_qR, nx_mk, kd_mk, ln_mk, fI_mk, fL_mk, fR_mk, aI_mk, aL_mk, aR_mk, false_and, and_false, if_false, if_true, and_self, Int.reduceEq, Nat.reduceEqDiff, ite_self, MLay_pI, MLay_pL, MLay_qI, MLay_qL, ev_X12_init_498, ev_X12_init_499, xt_X12_init, xf_X12_init]
  exact h

set_option maxRecDepth 20000 in
theorem ini_476 {Q : Option AV → Hp → Prop} {ρ : Hp} (hk : kd ρ 62 = 13) (a1 : fR ρ 1318 62 = 78 ∧ kd ρ 78 = 101 ∧ ln ρ 78 = 4) (a2 : fR ρ 1310 62 = 70 ∧ kd ρ 70 = 101 ∧ ln ρ 70 = 32) (h : Q none (pI (pI (pI (wrN (wrN ρ 78 (-1000) 4) 70 (-1) 32) 1341 62 3) 1342 62 40) 1321 62 (-1))) : Go M_X12_init Q 476 [some (vr 62), none] [] ρ (58, 32433) := by
  have w2 : ∀ x1, Go M_X12_init Q 498 [some (vr 62), x1] [] (wrN ρ 78 (-1000) 4) (58, 32433) := fun x1 => ini_498 (ini_500 (ρ := wrN ρ 78 (-1000) 4) (by rw [kd_wrN]; exact hk) (by rw [fR_wrN]; exact a2.1) (by rw [kd_wrN]; exact a2.2.1) (by rw [ln_wrN]; exact a2.2.2) (fun x1 => ini_519 (by rw [kd_wrN, kd_wrN]; exact hk) h) 32 0 rfl)
  have w := ini_478 hk a1.1 a1.2.1 a1.2.2 w2 4 0 rfl
  have w : Go M_X12_init Q 478 [some (vr 62), some (vi 0)] [] ρ (58, 32433) := w
  refine go_X12_init (ct := fun p => p == 478) 10 ?_
  simp only [oI, oL, oR, o1, lI, lL, lR, popN, catS, gv, stL, stL2, swt, cnd, spObj, List.getElem?_cons_zero, List.getElem?_cons_succ, List.getD_cons_zero, List.getD_cons_succ, List.set_cons_zero, List.set_cons_succ, List.nil_append, List.cons_append, Option.toList, Bool.or_false, Bool.false_or, Bool.or_true, Bool.true_or, Nat.reduceBEq, Nat.reduceAdd, Nat.reduceLT, Nat.reduceLeDiff, Int.reduceAdd, Int.reduceToNat, true_and, and_true, Fin.isValue, Fin.val_zero, Fin.val_one, Fin.val_two, Fin.reduceFinMk, eq_self, Int.reduceNeg, imp_self, Nat.reduceMul, Nat.le_refl, not_true_eq_false, not_false_eq_true, List.getElem?_nil, reduceCtorEq, true_or, or_true, Classical.not_not, implies_true, or_self, wI_0, wI_1, wI_m1, b2i_w, b2i_eq0, b2i_eq1, b2i_bool, nor_self, nx_pI, kd_pI, ln_pI, fI_pI, fL_pI, fR_pI, aI_pI, aL_pI, aR_pI, nx_pL, kd_pL, ln_pL, fI_pL, fL_pL, fR_pL, aI_pL, aL_pL, aR_pL, nx_pR, kd_pR, ln_pR, fI_pR, fL_pR, fR_pR, aI_pR, aL_pR, aR_pR, nx_qI, kd_qI, ln_qI, fI_qI, fL_qI, fR_qI, aI_qI, aL_qI, aR_qI, nx_qL, kd_qL, ln_qL, fI_qL, fL_qL, fR_qL, aI_qL, aL_qL, aR_qL, nx_qR, kd_qR, ln_qR, fI_qR, fL_qR, fR_qR, aI_qR, aL_qR, aR_qR, nx_mk, kd_mk, ln_mk, fI_mk, fL_mk, fR_mk, aI_mk, aL_mk, aR_mk, false_and, and_false, if_false, if_true, and_self, Int.reduceEq, Nat.reduceEqDiff, ite_self, MLay_pI, MLay_pL, MLay_qI, MLay_qL, ev_X12_init_476, ev_X12_init_477, xt_X12_init, xf_X12_init]
  exact w

theorem kd_ini {σ : Hp} (hn : nx σ = 63) : kd (mkN σ 62 iniL 58) 62 = kd σ 62 := kd_mkN σ 62 iniL (by omega) 58

set_option maxRecDepth 20000 in
theorem ini_beg {Q : Option AV → Hp → Prop} {σ : Hp} (hn : nx σ = 63) (hk : kd σ 62 = 13) (h : Q none (mIni σ)) : Go M_X12_init Q 4 [some (vr 62), none] [] (mkN σ 62 iniL 0) (0, 0) := by
  refine inc_0 hn hk ?_
  refine inc_10 hn hk ?_
  refine inc_20 hn hk ?_
  refine inc_30 hn hk ?_
  refine inc_40 hn hk ?_
  refine inc_50 hn hk ?_
  exact ini_476 ((kd_ini hn).trans hk) (mkN_lk hn) (mkN_bg hn) h

set_option maxRecDepth 20000 in
theorem c_X12_init : Ct yX12_init cX12_init 2 ((none : Option FieldType)) 1 58 32433 sp_X12_init := by
  refine Ct.go (M := M_X12_init) mm_X12_init fun av σ Q h0 => ?_
  obtain ⟨this, rfl, hk, h⟩ := el_X12_init h0
  clear h0
  refine ⟨Nat.le_of_ble_eq_true rfl, ?_⟩
  show Go M_X12_init Q 0 [some (vr this), none] [] σ (0, 0)
  obtain ⟨rfl, hn, h⟩ := h
  have w := ini_beg hn hk h
  generalize mIni σ = ρ at *
  have w : Go M_X12_init Q 4 [some (vr 62), none] [] σ (0, 0) := w
  clear h
  refine go_X12_init (ct := fun p => p == 4) 10 ?_
  simp only [oI, oL, oR, o1, lI, lL, lR, popN, catS, gv, stL, stL2, swt, cnd, spObj, List.getElem?_cons_zero, List.getElem?_cons_succ, List.getD_cons_zero, List.getD_cons_succ, List.set_cons_zero, List.set_cons_succ, List.nil_append, List.cons_append, Option.toList, Bool.or_false, Bool.false_or, Bool.or_true, Bool.true_or, Nat.reduceBEq, Nat.reduceAdd, Nat.reduceLT, Nat.reduceLeDiff, Int.reduceAdd, Int.reduceToNat, true_and, and_true, Fin.isValue, Fin.val_zero, Fin.val_one, Fin.val_two, Fin.reduceFinMk, eq_self, Int.reduceNeg, imp_self, Nat.reduceMul, Nat.le_refl, not_true_eq_false, not_false_eq_true, List.getElem?_nil, reduceCtorEq, true_or, or_true, Classical.not_not, implies_true, or_self, wI_0, wI_1, wI_m1, b2i_w, b2i_eq0, b2i_eq1, b2i_bool, nor_self, nx_pI, kd_pI, ln_pI, fI_pI, fL_pI, fR_pI, aI_pI, aL_pI, aR_pI, nx_pL, kd_pL, ln_pL, fI_pL, fL_pL, fR_pL, aI_pL, aL_pL, aR_pL, nx_pR, kd_pR, ln_pR, fI_pR, fL_pR, fR_pR, aI_pR, aL_pR, aR_pR, nx_qI, kd_qI, ln_qI, fI_qI, fL_qI, fR_qI, aI_qI, aL_qI, aR_qI, nx_qL, kd_qL, ln_qL, fI_qL, fL_qL, fR_qL, aI_qL, aL_qL, aR_qL, nx_qR, kd_qR, ln_qR, fI_qR, fL_qR, fR_qR, aI_qR, aL_qR, aR_qR, nx_mk, kd_mk, ln_mk, fI_mk, fL_mk, fR_mk, aI_mk, aL_mk, aR_mk, false_and, and_false, if_false, if_true, and_self, Int.reduceEq, Nat.reduceEqDiff, ite_self, MLay_pI, MLay_pL, MLay_qI, MLay_qL, ev_X12_init_0, ev_X12_init_1, xt_X12_init, xf_X12_init, Int.reduceEq]
  exact ⟨by decide, w⟩

/-! the law -/

def FL_L : List (Nat × Nat × Nat × String × Nat) := []
def FT_L : List (Nat × Nat × Nat) := FL_L.map (fun z => (z.1, z.2.1, z.2.2.1)) ++ []
theorem ft_L : ∀ q ∈ FT_L, FLk RL q.1 q.2.1 q.2.2 := fun q hq => by cases hq

def sp_L_law : Sp := fun av σ Q => oR av fun b av => av = [] ∧ (kd σ b = 108 ∧ ∀ σ', Q (some (vi 1)) σ')
theorem us_L_law (b : Int) (σ : Hp) (Q : Option AV → Hp → Prop) : sp_L_law [vr b] σ Q = ((kd σ b = 108 ∧ ∀ σ', Q (some (vi 1)) σ')) := propext ⟨fun h => h.2, fun h => ⟨rfl, h⟩⟩
theorem el_L_law {av : List AV} {σ : Hp} {Q : Option AV → Hp → Prop} (h : sp_L_law av σ Q) : ∃ (b : Int), av = [vr b] ∧ ((kd σ b = 108 ∧ ∀ σ', Q (some (vi 1)) σ')) := by
  obtain ⟨b, a0, rfl, h0⟩ := oR_s h
  obtain ⟨rfl, hz⟩ := h0
  exact ⟨b, rfl, hz⟩

def tb_L_law_0 : Tab := [(0, .new 8, 3, (12, 11, 0, 0)), (3, .dup, 1, (0, 0, 0, 0)), (4, .invokespecial 15, 3, (0, 0, 0, 0)), (7, .astore_n 1, 1, (0, 0, 0, 0)), (8, .new 16, 3, (13, 88, 0, 0)), (11, .dup, 1, (0, 0, 0, 0)), (12, .invokespecial 18, 3, (0, 0, 0, 0)), (15, .astore_n 2, 1, (0, 0, 0, 0)), (16, .iconst 1, 1, (0, 0, 0, 0)), (17, .newarray .long, 2, (102, 0, 0, 0)), (19, .astore_n 3, 1, (0, 0, 0, 0)), (20, .iconst 0, 1, (0, 0, 0, 0)), (21, .istore 4, 2, (0, 0, 0, 0)), (23, .iload 4, 2, (0, 0, 0, 0)), (25, .aload_n 0, 1, (0, 0, 0, 0)), (26, .arraylength, 1, (0, 0, 0, 0)), (27, .bipush 7, 2, (0, 0, 0, 0)), (29, .isub, 1, (0, 0, 0, 0)), (30, .if_icmp .gt 1309, 3, (0, 0, 0, 0)), (33, .aload_n 0, 1, (0, 0, 0, 0)), (34, .iload 4, 2, (0, 0, 0, 0)), (36, .iaload, 1, (0, 0, 0, 0)), (37, .bipush 31, 2, (0, 0, 0, 0)), (39, .iand, 1, (0, 0, 0, 0)), (40, .tableswitch 1293 0 29 #[136, 161, 248, 273, 338, 375, 424, 437, 486, 499, 536, 573, 610, 757, 770, 795, 820, 857, 910, 935, 960, 985, 998, 1035, 1048, 1101, 1138, 1175, 1200, 1268], 136, (0, 0, 0, 0)), (176, .aload_n 1, 1, (0, 0, 0, 0)), (177, .aload_n 0, 1, (0, 0, 0, 0)), (178, .iload 4, 2, (0, 0, 0, 0)), (180, .iconst 1, 1, (0, 0, 0, 0)), (181, .iadd, 1, (0, 0, 0, 0)), (182, .iaload, 1, (0, 0, 0, 0)), (183, .invokevirtual 19, 3, (0, 0, 0, 0)), (186, .aload_n 2, 1, (0, 0, 0, 0)), (187, .aload_n 0, 1, (0, 0, 0, 0)), (188, .iload 4, 2, (0, 0, 0, 0)), (190, .iconst 1, 1, (0, 0, 0, 0)), (191, .iadd, 1, (0, 0, 0, 0)), (192, .iaload, 1, (0, 0, 0, 0)), (193, .invokevirtual 23, 3, (0, 0, 0, 0)), (196, .if_icmp .eq 1137, 3, (0, 0, 0, 0)), (199, .iconst 0, 1, (0, 0, 0, 0)), (200, .ireturn, 1, (0, 0, 0, 0)), (201, .aload_n 1, 1, (0, 0, 0, 0)), (202, .aload_n 0, 1, (0, 0, 0, 0)), (203, .iload 4, 2, (0, 0, 0, 0)), (205, .iconst 1, 1, (0, 0, 0, 0)), (206, .iadd, 1, (0, 0, 0, 0)), (207, .iaload, 1, (0, 0, 0, 0)), (208, .aload_n 0, 1, (0, 0, 0, 0)), (209, .iload 4, 2, (0, 0, 0, 0)), (211, .iconst 2, 1, (0, 0, 0, 0)), (212, .iadd, 1, (0, 0, 0, 0)), (213, .iaload, 1, (0, 0, 0, 0)), (214, .aload_n 0, 1, (0, 0, 0, 0)), (215, .iload 4, 2, (0, 0, 0, 0)), (217, .iconst 3, 1, (0, 0, 0, 0)), (218, .iadd, 1, (0, 0, 0, 0)), (219, .iaload, 1, (0, 0, 0, 0)), (220, .aload_n 0, 1, (0, 0, 0, 0)), (221, .iload 4, 2, (0, 0, 0, 0))]
set_option maxRecDepth 100000 in
theorem tk_L_law_0 : TOK RL false cL_law tb_L_law_0 := chkT_ok ft_L (by decide +kernel)
def tb_L_law_1 : Tab := [(223, .iconst 4, 1, (0, 0, 0, 0)), (224, .iadd, 1, (0, 0, 0, 0)), (225, .iaload, 1, (0, 0, 0, 0)), (226, .aload_n 0, 1, (0, 0, 0, 0)), (227, .iload 4, 2, (0, 0, 0, 0)), (229, .iconst 5, 1, (0, 0, 0, 0)), (230, .iadd, 1, (0, 0, 0, 0)), (231, .iaload, 1, (0, 0, 0, 0)), (232, .aload_n 0, 1, (0, 0, 0, 0)), (233, .iload 4, 2, (0, 0, 0, 0)), (235, .bipush 6, 2, (0, 0, 0, 0)), (237, .iadd, 1, (0, 0, 0, 0)), (238, .iaload, 1, (0, 0, 0, 0)), (239, .invokevirtual 24, 3, (0, 0, 0, 0)), (242, .aload_n 2, 1, (0, 0, 0, 0)), (243, .aload_n 0, 1, (0, 0, 0, 0)), (244, .iload 4, 2, (0, 0, 0, 0)), (246, .iconst 1, 1, (0, 0, 0, 0)), (247, .iadd, 1, (0, 0, 0, 0)), (248, .iaload, 1, (0, 0, 0, 0)), (249, .aload_n 0, 1, (0, 0, 0, 0)), (250, .iload 4, 2, (0, 0, 0, 0)), (252, .iconst 2, 1, (0, 0, 0, 0)), (253, .iadd, 1, (0, 0, 0, 0)), (254, .iaload, 1, (0, 0, 0, 0)), (255, .aload_n 0, 1, (0, 0, 0, 0)), (256, .iload 4, 2, (0, 0, 0, 0)), (258, .iconst 3, 1, (0, 0, 0, 0)), (259, .iadd, 1, (0, 0, 0, 0)), (260, .iaload, 1, (0, 0, 0, 0)), (261, .aload_n 0, 1, (0, 0, 0, 0)), (262, .iload 4, 2, (0, 0, 0, 0)), (264, .iconst 4, 1, (0, 0, 0, 0)), (265, .iadd, 1, (0, 0, 0, 0)), (266, .iaload, 1, (0, 0, 0, 0)), (267, .aload_n 0, 1, (0, 0, 0, 0)), (268, .iload 4, 2, (0, 0, 0, 0)), (270, .iconst 5, 1, (0, 0, 0, 0)), (271, .iadd, 1, (0, 0, 0, 0)), (272, .iaload, 1, (0, 0, 0, 0)), (273, .aload_n 0, 1, (0, 0, 0, 0)), (274, .iload 4, 2, (0, 0, 0, 0)), (276, .bipush 6, 2, (0, 0, 0, 0)), (278, .iadd, 1, (0, 0, 0, 0)), (279, .iaload, 1, (0, 0, 0, 0)), (280, .invokevirtual 28, 3, (0, 0, 0, 0)), (283, .if_icmp .eq 1050, 3, (0, 0, 0, 0)), (286, .iconst 0, 1, (0, 0, 0, 0)), (287, .ireturn, 1, (0, 0, 0, 0)), (288, .aload_n 1, 1, (0, 0, 0, 0)), (289, .aload_n 0, 1, (0, 0, 0, 0)), (290, .iload 4, 2, (0, 0, 0, 0)), (292, .iconst 1, 1, (0, 0, 0, 0)), (293, .iadd, 1, (0, 0, 0, 0)), (294, .iaload, 1, (0, 0, 0, 0)), (295, .invokevirtual 29, 3, (0, 0, 0, 0)), (298, .aload_n 2, 1, (0, 0, 0, 0)), (299, .aload_n 0, 1, (0, 0, 0, 0)), (300, .iload 4, 2, (0, 0, 0, 0)), (302, .iconst 1, 1, (0, 0, 0, 0))]
set_option maxRecDepth 100000 in
theorem tk_L_law_1 : TOK RL false cL_law tb_L_law_1 := chkT_ok ft_L (by decide +kernel)
def tb_L_law_2 : Tab := [(303, .iadd, 1, (0, 0, 0, 0)), (304, .iaload, 1, (0, 0, 0, 0)), (305, .invokevirtual 33, 3, (0, 0, 0, 0)), (308, .if_icmp .eq 1025, 3, (0, 0, 0, 0)), (311, .iconst 0, 1, (0, 0, 0, 0)), (312, .ireturn, 1, (0, 0, 0, 0)), (313, .aload_n 1, 1, (0, 0, 0, 0)), (314, .aload_n 0, 1, (0, 0, 0, 0)), (315, .iload 4, 2, (0, 0, 0, 0)), (317, .iconst 1, 1, (0, 0, 0, 0)), (318, .iadd, 1, (0, 0, 0, 0)), (319, .iaload, 1, (0, 0, 0, 0)), (320, .aload_n 0, 1, (0, 0, 0, 0)), (321, .iload 4, 2, (0, 0, 0, 0)), (323, .iconst 2, 1, (0, 0, 0, 0)), (324, .iadd, 1, (0, 0, 0, 0)), (325, .iaload, 1, (0, 0, 0, 0)), (326, .aload_n 0, 1, (0, 0, 0, 0)), (327, .iload 4, 2, (0, 0, 0, 0)), (329, .iconst 3, 1, (0, 0, 0, 0)), (330, .iadd, 1, (0, 0, 0, 0)), (331, .iaload, 1, (0, 0, 0, 0)), (332, .ifCond .eq 7, 3, (0, 0, 0, 0)), (335, .iconst 1, 1, (0, 0, 0, 0)), (336, .goto 4, 3, (0, 0, 0, 0)), (339, .iconst 0, 1, (0, 0, 0, 0)), (340, .invokevirtual 34, 3, (0, 0, 0, 0)), (343, .aload_n 2, 1, (0, 0, 0, 0)), (344, .aload_n 0, 1, (0, 0, 0, 0)), (345, .iload 4, 2, (0, 0, 0, 0)), (347, .iconst 1, 1, (0, 0, 0, 0)), (348, .iadd, 1, (0, 0, 0, 0)), (349, .iaload, 1, (0, 0, 0, 0)), (350, .aload_n 0, 1, (0, 0, 0, 0)), (351, .iload 4, 2, (0, 0, 0, 0)), (353, .iconst 2, 1, (0, 0, 0, 0)), (354, .iadd, 1, (0, 0, 0, 0)), (355, .iaload, 1, (0, 0, 0, 0)), (356, .aload_n 0, 1, (0, 0, 0, 0)), (357, .iload 4, 2, (0, 0, 0, 0)), (359, .iconst 3, 1, (0, 0, 0, 0)), (360, .iadd, 1, (0, 0, 0, 0)), (361, .iaload, 1, (0, 0, 0, 0)), (362, .ifCond .eq 7, 3, (0, 0, 0, 0)), (365, .iconst 1, 1, (0, 0, 0, 0)), (366, .goto 4, 3, (0, 0, 0, 0)), (369, .iconst 0, 1, (0, 0, 0, 0)), (370, .invokevirtual 38, 3, (0, 0, 0, 0)), (373, .if_icmp .eq 960, 3, (0, 0, 0, 0)), (376, .iconst 0, 1, (0, 0, 0, 0)), (377, .ireturn, 1, (0, 0, 0, 0)), (378, .aload_n 1, 1, (0, 0, 0, 0)), (379, .aload_n 0, 1, (0, 0, 0, 0)), (380, .iload 4, 2, (0, 0, 0, 0)), (382, .iconst 1, 1, (0, 0, 0, 0)), (383, .iadd, 1, (0, 0, 0, 0)), (384, .iaload, 1, (0, 0, 0, 0)), (385, .aload_n 0, 1, (0, 0, 0, 0)), (386, .iload 4, 2, (0, 0, 0, 0)), (388, .iconst 2, 1, (0, 0, 0, 0))]
set_option maxRecDepth 100000 in
theorem tk_L_law_2 : TOK RL false cL_law tb_L_law_2 := chkT_ok ft_L (by decide +kernel)
def tb_L_law_3 : Tab := [(389, .iadd, 1, (0, 0, 0, 0)), (390, .iaload, 1, (0, 0, 0, 0)), (391, .invokevirtual 39, 3, (0, 0, 0, 0)), (394, .aload_n 2, 1, (0, 0, 0, 0)), (395, .aload_n 0, 1, (0, 0, 0, 0)), (396, .iload 4, 2, (0, 0, 0, 0)), (398, .iconst 1, 1, (0, 0, 0, 0)), (399, .iadd, 1, (0, 0, 0, 0)), (400, .iaload, 1, (0, 0, 0, 0)), (401, .aload_n 0, 1, (0, 0, 0, 0)), (402, .iload 4, 2, (0, 0, 0, 0)), (404, .iconst 2, 1, (0, 0, 0, 0)), (405, .iadd, 1, (0, 0, 0, 0)), (406, .iaload, 1, (0, 0, 0, 0)), (407, .invokevirtual 42, 3, (0, 0, 0, 0)), (410, .if_icmp .eq 923, 3, (0, 0, 0, 0)), (413, .iconst 0, 1, (0, 0, 0, 0)), (414, .ireturn, 1, (0, 0, 0, 0)), (415, .aload_n 1, 1, (0, 0, 0, 0)), (416, .aload_n 0, 1, (0, 0, 0, 0)), (417, .iload 4, 2, (0, 0, 0, 0)), (419, .iconst 1, 1, (0, 0, 0, 0)), (420, .iadd, 1, (0, 0, 0, 0)), (421, .iaload, 1, (0, 0, 0, 0)), (422, .aload_n 0, 1, (0, 0, 0, 0)), (423, .iload 4, 2, (0, 0, 0, 0)), (425, .iconst 2, 1, (0, 0, 0, 0)), (426, .iadd, 1, (0, 0, 0, 0)), (427, .iaload, 1, (0, 0, 0, 0)), (428, .aload_n 0, 1, (0, 0, 0, 0)), (429, .iload 4, 2, (0, 0, 0, 0)), (431, .iconst 3, 1, (0, 0, 0, 0)), (432, .iadd, 1, (0, 0, 0, 0)), (433, .iaload, 1, (0, 0, 0, 0)), (434, .invokevirtual 43, 3, (0, 0, 0, 0)), (437, .aload_n 2, 1, (0, 0, 0, 0)), (438, .aload_n 0, 1, (0, 0, 0, 0)), (439, .iload 4, 2, (0, 0, 0, 0)), (441, .iconst 1, 1, (0, 0, 0, 0)), (442, .iadd, 1, (0, 0, 0, 0)), (443, .iaload, 1, (0, 0, 0, 0)), (444, .aload_n 0, 1, (0, 0, 0, 0)), (445, .iload 4, 2, (0, 0, 0, 0)), (447, .iconst 2, 1, (0, 0, 0, 0)), (448, .iadd, 1, (0, 0, 0, 0)), (449, .iaload, 1, (0, 0, 0, 0)), (450, .aload_n 0, 1, (0, 0, 0, 0)), (451, .iload 4, 2, (0, 0, 0, 0)), (453, .iconst 3, 1, (0, 0, 0, 0)), (454, .iadd, 1, (0, 0, 0, 0)), (455, .iaload, 1, (0, 0, 0, 0)), (456, .invokevirtual 47, 3, (0, 0, 0, 0)), (459, .if_icmp .eq 874, 3, (0, 0, 0, 0)), (462, .iconst 0, 1, (0, 0, 0, 0)), (463, .ireturn, 1, (0, 0, 0, 0)), (464, .aload_n 1, 1, (0, 0, 0, 0)), (465, .invokevirtual 48, 3, (0, 0, 0, 0)), (468, .aload_n 2, 1, (0, 0, 0, 0)), (469, .invokevirtual 52, 3, (0, 0, 0, 0)), (472, .if_icmp .eq 861, 3, (0, 0, 0, 0))]
set_option maxRecDepth 100000 in
theorem tk_L_law_3 : TOK RL false cL_law tb_L_law_3 := chkT_ok ft_L (by decide +kernel)
def tb_L_law_4 : Tab := [(475, .iconst 0, 1, (0, 0, 0, 0)), (476, .ireturn, 1, (0, 0, 0, 0)), (477, .aload_n 1, 1, (0, 0, 0, 0)), (478, .aload_n 0, 1, (0, 0, 0, 0)), (479, .iload 4, 2, (0, 0, 0, 0)), (481, .iconst 1, 1, (0, 0, 0, 0)), (482, .iadd, 1, (0, 0, 0, 0)), (483, .iaload, 1, (0, 0, 0, 0)), (484, .aload_n 0, 1, (0, 0, 0, 0)), (485, .iload 4, 2, (0, 0, 0, 0)), (487, .iconst 2, 1, (0, 0, 0, 0)), (488, .iadd, 1, (0, 0, 0, 0)), (489, .iaload, 1, (0, 0, 0, 0)), (490, .aload_n 0, 1, (0, 0, 0, 0)), (491, .iload 4, 2, (0, 0, 0, 0)), (493, .iconst 3, 1, (0, 0, 0, 0)), (494, .iadd, 1, (0, 0, 0, 0)), (495, .iaload, 1, (0, 0, 0, 0)), (496, .invokevirtual 53, 3, (0, 0, 0, 0)), (499, .aload_n 2, 1, (0, 0, 0, 0)), (500, .aload_n 0, 1, (0, 0, 0, 0)), (501, .iload 4, 2, (0, 0, 0, 0)), (503, .iconst 1, 1, (0, 0, 0, 0)), (504, .iadd, 1, (0, 0, 0, 0)), (505, .iaload, 1, (0, 0, 0, 0)), (506, .aload_n 0, 1, (0, 0, 0, 0)), (507, .iload 4, 2, (0, 0, 0, 0)), (509, .iconst 2, 1, (0, 0, 0, 0)), (510, .iadd, 1, (0, 0, 0, 0)), (511, .iaload, 1, (0, 0, 0, 0)), (512, .aload_n 0, 1, (0, 0, 0, 0)), (513, .iload 4, 2, (0, 0, 0, 0)), (515, .iconst 3, 1, (0, 0, 0, 0)), (516, .iadd, 1, (0, 0, 0, 0)), (517, .iaload, 1, (0, 0, 0, 0)), (518, .invokevirtual 56, 3, (0, 0, 0, 0)), (521, .if_icmp .eq 812, 3, (0, 0, 0, 0)), (524, .iconst 0, 1, (0, 0, 0, 0)), (525, .ireturn, 1, (0, 0, 0, 0)), (526, .aload_n 1, 1, (0, 0, 0, 0)), (527, .invokevirtual 57, 3, (0, 0, 0, 0)), (530, .aload_n 2, 1, (0, 0, 0, 0)), (531, .invokevirtual 60, 3, (0, 0, 0, 0)), (534, .if_icmp .eq 799, 3, (0, 0, 0, 0)), (537, .iconst 0, 1, (0, 0, 0, 0)), (538, .ireturn, 1, (0, 0, 0, 0)), (539, .aload_n 1, 1, (0, 0, 0, 0)), (540, .aload_n 0, 1, (0, 0, 0, 0)), (541, .iload 4, 2, (0, 0, 0, 0)), (543, .iconst 1, 1, (0, 0, 0, 0)), (544, .iadd, 1, (0, 0, 0, 0)), (545, .iaload, 1, (0, 0, 0, 0)), (546, .aload_n 0, 1, (0, 0, 0, 0)), (547, .iload 4, 2, (0, 0, 0, 0)), (549, .iconst 2, 1, (0, 0, 0, 0)), (550, .iadd, 1, (0, 0, 0, 0)), (551, .iaload, 1, (0, 0, 0, 0)), (552, .invokevirtual 61, 3, (0, 0, 0, 0)), (555, .aload_n 2, 1, (0, 0, 0, 0)), (556, .aload_n 0, 1, (0, 0, 0, 0))]
set_option maxRecDepth 100000 in
theorem tk_L_law_4 : TOK RL false cL_law tb_L_law_4 := chkT_ok ft_L (by decide +kernel)
def tb_L_law_5 : Tab := [(557, .iload 4, 2, (0, 0, 0, 0)), (559, .iconst 1, 1, (0, 0, 0, 0)), (560, .iadd, 1, (0, 0, 0, 0)), (561, .iaload, 1, (0, 0, 0, 0)), (562, .aload_n 0, 1, (0, 0, 0, 0)), (563, .iload 4, 2, (0, 0, 0, 0)), (565, .iconst 2, 1, (0, 0, 0, 0)), (566, .iadd, 1, (0, 0, 0, 0)), (567, .iaload, 1, (0, 0, 0, 0)), (568, .invokevirtual 64, 3, (0, 0, 0, 0)), (571, .if_icmp .eq 762, 3, (0, 0, 0, 0)), (574, .iconst 0, 1, (0, 0, 0, 0)), (575, .ireturn, 1, (0, 0, 0, 0)), (576, .aload_n 1, 1, (0, 0, 0, 0)), (577, .aload_n 0, 1, (0, 0, 0, 0)), (578, .iload 4, 2, (0, 0, 0, 0)), (580, .iconst 1, 1, (0, 0, 0, 0)), (581, .iadd, 1, (0, 0, 0, 0)), (582, .iaload, 1, (0, 0, 0, 0)), (583, .aload_n 0, 1, (0, 0, 0, 0)), (584, .iload 4, 2, (0, 0, 0, 0)), (586, .iconst 2, 1, (0, 0, 0, 0)), (587, .iadd, 1, (0, 0, 0, 0)), (588, .iaload, 1, (0, 0, 0, 0)), (589, .invokevirtual 65, 3, (0, 0, 0, 0)), (592, .aload_n 2, 1, (0, 0, 0, 0)), (593, .aload_n 0, 1, (0, 0, 0, 0)), (594, .iload 4, 2, (0, 0, 0, 0)), (596, .iconst 1, 1, (0, 0, 0, 0)), (597, .iadd, 1, (0, 0, 0, 0)), (598, .iaload, 1, (0, 0, 0, 0)), (599, .aload_n 0, 1, (0, 0, 0, 0)), (600, .iload 4, 2, (0, 0, 0, 0)), (602, .iconst 2, 1, (0, 0, 0, 0)), (603, .iadd, 1, (0, 0, 0, 0)), (604, .iaload, 1, (0, 0, 0, 0)), (605, .invokevirtual 68, 3, (0, 0, 0, 0)), (608, .if_icmp .eq 725, 3, (0, 0, 0, 0)), (611, .iconst 0, 1, (0, 0, 0, 0)), (612, .ireturn, 1, (0, 0, 0, 0)), (613, .aload_n 1, 1, (0, 0, 0, 0)), (614, .aload_n 0, 1, (0, 0, 0, 0)), (615, .iload 4, 2, (0, 0, 0, 0)), (617, .iconst 1, 1, (0, 0, 0, 0)), (618, .iadd, 1, (0, 0, 0, 0)), (619, .iaload, 1, (0, 0, 0, 0)), (620, .aload_n 0, 1, (0, 0, 0, 0)), (621, .iload 4, 2, (0, 0, 0, 0)), (623, .iconst 2, 1, (0, 0, 0, 0)), (624, .iadd, 1, (0, 0, 0, 0)), (625, .iaload, 1, (0, 0, 0, 0)), (626, .invokevirtual 69, 3, (0, 0, 0, 0)), (629, .aload_n 2, 1, (0, 0, 0, 0)), (630, .aload_n 0, 1, (0, 0, 0, 0)), (631, .iload 4, 2, (0, 0, 0, 0)), (633, .iconst 1, 1, (0, 0, 0, 0)), (634, .iadd, 1, (0, 0, 0, 0)), (635, .iaload, 1, (0, 0, 0, 0)), (636, .aload_n 0, 1, (0, 0, 0, 0)), (637, .iload 4, 2, (0, 0, 0, 0))]
set_option maxRecDepth 100000 in
theorem tk_L_law_5 : TOK RL false cL_law tb_L_law_5 := chkT_ok ft_L (by decide +kernel)
def tb_L_law_6 : Tab := [(639, .iconst 2, 1, (0, 0, 0, 0)), (640, .iadd, 1, (0, 0, 0, 0)), (641, .iaload, 1, (0, 0, 0, 0)), (642, .invokevirtual 73, 3, (0, 0, 0, 0)), (645, .if_icmp .eq 688, 3, (0, 0, 0, 0)), (648, .iconst 0, 1, (0, 0, 0, 0)), (649, .ireturn, 1, (0, 0, 0, 0)), (650, .aload_n 1, 1, (0, 0, 0, 0)), (651, .aload_n 0, 1, (0, 0, 0, 0)), (652, .iload 4, 2, (0, 0, 0, 0)), (654, .iconst 1, 1, (0, 0, 0, 0)), (655, .iadd, 1, (0, 0, 0, 0)), (656, .iaload, 1, (0, 0, 0, 0)), (657, .i2l, 1, (0, 0, 0, 0)), (658, .bipush 32, 2, (0, 0, 0, 0)), (660, .lshl, 1, (0, 0, 0, 0)), (661, .aload_n 0, 1, (0, 0, 0, 0)), (662, .iload 4, 2, (0, 0, 0, 0)), (664, .iconst 2, 1, (0, 0, 0, 0)), (665, .iadd, 1, (0, 0, 0, 0)), (666, .iaload, 1, (0, 0, 0, 0)), (667, .i2l, 1, (0, 0, 0, 0)), (668, .ldc2_w 74, 3, (1, 0, 0, 4294967295)), (671, .land, 1, (0, 0, 0, 0)), (672, .lor, 1, (0, 0, 0, 0)), (673, .aload_n 0, 1, (0, 0, 0, 0)), (674, .iload 4, 2, (0, 0, 0, 0)), (676, .iconst 3, 1, (0, 0, 0, 0)), (677, .iadd, 1, (0, 0, 0, 0)), (678, .iaload, 1, (0, 0, 0, 0)), (679, .i2l, 1, (0, 0, 0, 0)), (680, .bipush 32, 2, (0, 0, 0, 0)), (682, .lshl, 1, (0, 0, 0, 0)), (683, .aload_n 0, 1, (0, 0, 0, 0)), (684, .iload 4, 2, (0, 0, 0, 0)), (686, .iconst 4, 1, (0, 0, 0, 0)), (687, .iadd, 1, (0, 0, 0, 0)), (688, .iaload, 1, (0, 0, 0, 0)), (689, .i2l, 1, (0, 0, 0, 0)), (690, .ldc2_w 74, 3, (1, 0, 0, 4294967295)), (693, .land, 1, (0, 0, 0, 0)), (694, .lor, 1, (0, 0, 0, 0)), (695, .aload_n 0, 1, (0, 0, 0, 0)), (696, .iload 4, 2, (0, 0, 0, 0)), (698, .iconst 5, 1, (0, 0, 0, 0)), (699, .iadd, 1, (0, 0, 0, 0)), (700, .iaload, 1, (0, 0, 0, 0)), (701, .i2l, 1, (0, 0, 0, 0)), (702, .bipush 32, 2, (0, 0, 0, 0)), (704, .lshl, 1, (0, 0, 0, 0)), (705, .aload_n 0, 1, (0, 0, 0, 0)), (706, .iload 4, 2, (0, 0, 0, 0)), (708, .bipush 6, 2, (0, 0, 0, 0)), (710, .iadd, 1, (0, 0, 0, 0)), (711, .iaload, 1, (0, 0, 0, 0)), (712, .i2l, 1, (0, 0, 0, 0)), (713, .ldc2_w 74, 3, (1, 0, 0, 4294967295)), (716, .land, 1, (0, 0, 0, 0)), (717, .lor, 1, (0, 0, 0, 0)), (718, .invokevirtual 76, 3, (0, 0, 0, 0))]
set_option maxRecDepth 100000 in
theorem tk_L_law_6 : TOK RL false cL_law tb_L_law_6 := chkT_ok ft_L (by decide +kernel)
def tb_L_law_7 : Tab := [(721, .aload_n 2, 1, (0, 0, 0, 0)), (722, .aload_n 0, 1, (0, 0, 0, 0)), (723, .iload 4, 2, (0, 0, 0, 0)), (725, .iconst 1, 1, (0, 0, 0, 0)), (726, .iadd, 1, (0, 0, 0, 0)), (727, .iaload, 1, (0, 0, 0, 0)), (728, .i2l, 1, (0, 0, 0, 0)), (729, .bipush 32, 2, (0, 0, 0, 0)), (731, .lshl, 1, (0, 0, 0, 0)), (732, .aload_n 0, 1, (0, 0, 0, 0)), (733, .iload 4, 2, (0, 0, 0, 0)), (735, .iconst 2, 1, (0, 0, 0, 0)), (736, .iadd, 1, (0, 0, 0, 0)), (737, .iaload, 1, (0, 0, 0, 0)), (738, .i2l, 1, (0, 0, 0, 0)), (739, .ldc2_w 74, 3, (1, 0, 0, 4294967295)), (742, .land, 1, (0, 0, 0, 0)), (743, .lor, 1, (0, 0, 0, 0)), (744, .aload_n 0, 1, (0, 0, 0, 0)), (745, .iload 4, 2, (0, 0, 0, 0)), (747, .iconst 3, 1, (0, 0, 0, 0)), (748, .iadd, 1, (0, 0, 0, 0)), (749, .iaload, 1, (0, 0, 0, 0)), (750, .i2l, 1, (0, 0, 0, 0)), (751, .bipush 32, 2, (0, 0, 0, 0)), (753, .lshl, 1, (0, 0, 0, 0)), (754, .aload_n 0, 1, (0, 0, 0, 0)), (755, .iload 4, 2, (0, 0, 0, 0)), (757, .iconst 4, 1, (0, 0, 0, 0)), (758, .iadd, 1, (0, 0, 0, 0)), (759, .iaload, 1, (0, 0, 0, 0)), (760, .i2l, 1, (0, 0, 0, 0)), (761, .ldc2_w 74, 3, (1, 0, 0, 4294967295)), (764, .land, 1, (0, 0, 0, 0)), (765, .lor, 1, (0, 0, 0, 0)), (766, .aload_n 0, 1, (0, 0, 0, 0)), (767, .iload 4, 2, (0, 0, 0, 0)), (769, .iconst 5, 1, (0, 0, 0, 0)), (770, .iadd, 1, (0, 0, 0, 0)), (771, .iaload, 1, (0, 0, 0, 0)), (772, .i2l, 1, (0, 0, 0, 0)), (773, .bipush 32, 2, (0, 0, 0, 0)), (775, .lshl, 1, (0, 0, 0, 0)), (776, .aload_n 0, 1, (0, 0, 0, 0)), (777, .iload 4, 2, (0, 0, 0, 0)), (779, .bipush 6, 2, (0, 0, 0, 0)), (781, .iadd, 1, (0, 0, 0, 0)), (782, .iaload, 1, (0, 0, 0, 0)), (783, .i2l, 1, (0, 0, 0, 0)), (784, .ldc2_w 74, 3, (1, 0, 0, 4294967295)), (787, .land, 1, (0, 0, 0, 0)), (788, .lor, 1, (0, 0, 0, 0)), (789, .invokevirtual 80, 3, (0, 0, 0, 0)), (792, .if_icmp .eq 541, 3, (0, 0, 0, 0)), (795, .iconst 0, 1, (0, 0, 0, 0)), (796, .ireturn, 1, (0, 0, 0, 0)), (797, .aload_n 1, 1, (0, 0, 0, 0)), (798, .invokevirtual 81, 3, (0, 0, 0, 0)), (801, .aload_n 2, 1, (0, 0, 0, 0)), (802, .invokevirtual 84, 3, (0, 0, 0, 0))]
set_option maxRecDepth 100000 in
theorem tk_L_law_7 : TOK RL false cL_law tb_L_law_7 := chkT_ok ft_L (by decide +kernel)
def tb_L_law_8 : Tab := [(805, .if_icmp .eq 528, 3, (0, 0, 0, 0)), (808, .iconst 0, 1, (0, 0, 0, 0)), (809, .ireturn, 1, (0, 0, 0, 0)), (810, .aload_n 1, 1, (0, 0, 0, 0)), (811, .aload_n 0, 1, (0, 0, 0, 0)), (812, .iload 4, 2, (0, 0, 0, 0)), (814, .iconst 1, 1, (0, 0, 0, 0)), (815, .iadd, 1, (0, 0, 0, 0)), (816, .iaload, 1, (0, 0, 0, 0)), (817, .invokevirtual 85, 3, (0, 0, 0, 0)), (820, .aload_n 2, 1, (0, 0, 0, 0)), (821, .aload_n 0, 1, (0, 0, 0, 0)), (822, .iload 4, 2, (0, 0, 0, 0)), (824, .iconst 1, 1, (0, 0, 0, 0)), (825, .iadd, 1, (0, 0, 0, 0)), (826, .iaload, 1, (0, 0, 0, 0)), (827, .invokevirtual 88, 3, (0, 0, 0, 0)), (830, .if_icmp .eq 503, 3, (0, 0, 0, 0)), (833, .iconst 0, 1, (0, 0, 0, 0)), (834, .ireturn, 1, (0, 0, 0, 0)), (835, .aload_n 1, 1, (0, 0, 0, 0)), (836, .aload_n 0, 1, (0, 0, 0, 0)), (837, .iload 4, 2, (0, 0, 0, 0)), (839, .iconst 1, 1, (0, 0, 0, 0)), (840, .iadd, 1, (0, 0, 0, 0)), (841, .iaload, 1, (0, 0, 0, 0)), (842, .invokevirtual 89, 3, (0, 0, 0, 0)), (845, .aload_n 2, 1, (0, 0, 0, 0)), (846, .aload_n 0, 1, (0, 0, 0, 0)), (847, .iload 4, 2, (0, 0, 0, 0)), (849, .iconst 1, 1, (0, 0, 0, 0)), (850, .iadd, 1, (0, 0, 0, 0)), (851, .iaload, 1, (0, 0, 0, 0)), (852, .invokevirtual 92, 3, (0, 0, 0, 0)), (855, .if_icmp .eq 478, 3, (0, 0, 0, 0)), (858, .iconst 0, 1, (0, 0, 0, 0)), (859, .ireturn, 1, (0, 0, 0, 0)), (860, .aload_n 1, 1, (0, 0, 0, 0)), (861, .aload_n 0, 1, (0, 0, 0, 0)), (862, .iload 4, 2, (0, 0, 0, 0)), (864, .iconst 1, 1, (0, 0, 0, 0)), (865, .iadd, 1, (0, 0, 0, 0)), (866, .iaload, 1, (0, 0, 0, 0)), (867, .aload_n 0, 1, (0, 0, 0, 0)), (868, .iload 4, 2, (0, 0, 0, 0)), (870, .iconst 2, 1, (0, 0, 0, 0)), (871, .iadd, 1, (0, 0, 0, 0)), (872, .iaload, 1, (0, 0, 0, 0)), (873, .invokevirtual 93, 3, (0, 0, 0, 0)), (876, .aload_n 2, 1, (0, 0, 0, 0)), (877, .aload_n 0, 1, (0, 0, 0, 0)), (878, .iload 4, 2, (0, 0, 0, 0)), (880, .iconst 1, 1, (0, 0, 0, 0)), (881, .iadd, 1, (0, 0, 0, 0)), (882, .iaload, 1, (0, 0, 0, 0)), (883, .aload_n 0, 1, (0, 0, 0, 0)), (884, .iload 4, 2, (0, 0, 0, 0)), (886, .iconst 2, 1, (0, 0, 0, 0)), (887, .iadd, 1, (0, 0, 0, 0)), (888, .iaload, 1, (0, 0, 0, 0))]
set_option maxRecDepth 100000 in
theorem tk_L_law_8 : TOK RL false cL_law tb_L_law_8 := chkT_ok ft_L (by decide +kernel)
def tb_L_law_9 : Tab := [(889, .invokevirtual 96, 3, (0, 0, 0, 0)), (892, .if_icmp .eq 441, 3, (0, 0, 0, 0)), (895, .iconst 0, 1, (0, 0, 0, 0)), (896, .ireturn, 1, (0, 0, 0, 0)), (897, .aload_n 1, 1, (0, 0, 0, 0)), (898, .aload_n 0, 1, (0, 0, 0, 0)), (899, .iload 4, 2, (0, 0, 0, 0)), (901, .iconst 1, 1, (0, 0, 0, 0)), (902, .iadd, 1, (0, 0, 0, 0)), (903, .iaload, 1, (0, 0, 0, 0)), (904, .aload_n 0, 1, (0, 0, 0, 0)), (905, .iload 4, 2, (0, 0, 0, 0)), (907, .iconst 2, 1, (0, 0, 0, 0)), (908, .iadd, 1, (0, 0, 0, 0)), (909, .iaload, 1, (0, 0, 0, 0)), (910, .ifCond .eq 7, 3, (0, 0, 0, 0)), (913, .iconst 1, 1, (0, 0, 0, 0)), (914, .goto 4, 3, (0, 0, 0, 0)), (917, .iconst 0, 1, (0, 0, 0, 0)), (918, .invokevirtual 97, 3, (0, 0, 0, 0)), (921, .aload_n 2, 1, (0, 0, 0, 0)), (922, .aload_n 0, 1, (0, 0, 0, 0)), (923, .iload 4, 2, (0, 0, 0, 0)), (925, .iconst 1, 1, (0, 0, 0, 0)), (926, .iadd, 1, (0, 0, 0, 0)), (927, .iaload, 1, (0, 0, 0, 0)), (928, .aload_n 0, 1, (0, 0, 0, 0)), (929, .iload 4, 2, (0, 0, 0, 0)), (931, .iconst 2, 1, (0, 0, 0, 0)), (932, .iadd, 1, (0, 0, 0, 0)), (933, .iaload, 1, (0, 0, 0, 0)), (934, .ifCond .eq 7, 3, (0, 0, 0, 0)), (937, .iconst 1, 1, (0, 0, 0, 0)), (938, .goto 4, 3, (0, 0, 0, 0)), (941, .iconst 0, 1, (0, 0, 0, 0)), (942, .invokevirtual 101, 3, (0, 0, 0, 0)), (945, .if_icmp .eq 388, 3, (0, 0, 0, 0)), (948, .iconst 0, 1, (0, 0, 0, 0)), (949, .ireturn, 1, (0, 0, 0, 0)), (950, .aload_n 1, 1, (0, 0, 0, 0)), (951, .aload_n 0, 1, (0, 0, 0, 0)), (952, .iload 4, 2, (0, 0, 0, 0)), (954, .iconst 1, 1, (0, 0, 0, 0)), (955, .iadd, 1, (0, 0, 0, 0)), (956, .iaload, 1, (0, 0, 0, 0)), (957, .invokevirtual 102, 3, (0, 0, 0, 0)), (960, .aload_n 2, 1, (0, 0, 0, 0)), (961, .aload_n 0, 1, (0, 0, 0, 0)), (962, .iload 4, 2, (0, 0, 0, 0)), (964, .iconst 1, 1, (0, 0, 0, 0)), (965, .iadd, 1, (0, 0, 0, 0)), (966, .iaload, 1, (0, 0, 0, 0)), (967, .invokevirtual 105, 3, (0, 0, 0, 0)), (970, .if_icmp .eq 363, 3, (0, 0, 0, 0)), (973, .iconst 0, 1, (0, 0, 0, 0)), (974, .ireturn, 1, (0, 0, 0, 0)), (975, .aload_n 1, 1, (0, 0, 0, 0)), (976, .aload_n 0, 1, (0, 0, 0, 0)), (977, .iload 4, 2, (0, 0, 0, 0)), (979, .iconst 1, 1, (0, 0, 0, 0))]
set_option maxRecDepth 100000 in
theorem tk_L_law_9 : TOK RL false cL_law tb_L_law_9 := chkT_ok ft_L (by decide +kernel)
def tb_L_law_10 : Tab := [(980, .iadd, 1, (0, 0, 0, 0)), (981, .iaload, 1, (0, 0, 0, 0)), (982, .invokevirtual 106, 3, (0, 0, 0, 0)), (985, .aload_n 2, 1, (0, 0, 0, 0)), (986, .aload_n 0, 1, (0, 0, 0, 0)), (987, .iload 4, 2, (0, 0, 0, 0)), (989, .iconst 1, 1, (0, 0, 0, 0)), (990, .iadd, 1, (0, 0, 0, 0)), (991, .iaload, 1, (0, 0, 0, 0)), (992, .invokevirtual 109, 3, (0, 0, 0, 0)), (995, .if_icmp .eq 338, 3, (0, 0, 0, 0)), (998, .iconst 0, 1, (0, 0, 0, 0)), (999, .ireturn, 1, (0, 0, 0, 0)), (1000, .aload_n 1, 1, (0, 0, 0, 0)), (1001, .aload_n 0, 1, (0, 0, 0, 0)), (1002, .iload 4, 2, (0, 0, 0, 0)), (1004, .iconst 1, 1, (0, 0, 0, 0)), (1005, .iadd, 1, (0, 0, 0, 0)), (1006, .iaload, 1, (0, 0, 0, 0)), (1007, .invokevirtual 110, 3, (0, 0, 0, 0)), (1010, .aload_n 2, 1, (0, 0, 0, 0)), (1011, .aload_n 0, 1, (0, 0, 0, 0)), (1012, .iload 4, 2, (0, 0, 0, 0)), (1014, .iconst 1, 1, (0, 0, 0, 0)), (1015, .iadd, 1, (0, 0, 0, 0)), (1016, .iaload, 1, (0, 0, 0, 0)), (1017, .invokevirtual 113, 3, (0, 0, 0, 0)), (1020, .if_icmp .eq 313, 3, (0, 0, 0, 0)), (1023, .iconst 0, 1, (0, 0, 0, 0)), (1024, .ireturn, 1, (0, 0, 0, 0)), (1025, .aload_n 1, 1, (0, 0, 0, 0)), (1026, .invokevirtual 114, 3, (0, 0, 0, 0)), (1029, .aload_n 2, 1, (0, 0, 0, 0)), (1030, .invokevirtual 117, 3, (0, 0, 0, 0)), (1033, .if_icmp .eq 300, 3, (0, 0, 0, 0)), (1036, .iconst 0, 1, (0, 0, 0, 0)), (1037, .ireturn, 1, (0, 0, 0, 0)), (1038, .aload_n 1, 1, (0, 0, 0, 0)), (1039, .aload_n 0, 1, (0, 0, 0, 0)), (1040, .iload 4, 2, (0, 0, 0, 0)), (1042, .iconst 1, 1, (0, 0, 0, 0)), (1043, .iadd, 1, (0, 0, 0, 0)), (1044, .iaload, 1, (0, 0, 0, 0)), (1045, .aload_n 0, 1, (0, 0, 0, 0)), (1046, .iload 4, 2, (0, 0, 0, 0)), (1048, .iconst 2, 1, (0, 0, 0, 0)), (1049, .iadd, 1, (0, 0, 0, 0)), (1050, .iaload, 1, (0, 0, 0, 0)), (1051, .invokevirtual 118, 3, (0, 0, 0, 0)), (1054, .aload_n 2, 1, (0, 0, 0, 0)), (1055, .aload_n 0, 1, (0, 0, 0, 0)), (1056, .iload 4, 2, (0, 0, 0, 0)), (1058, .iconst 1, 1, (0, 0, 0, 0)), (1059, .iadd, 1, (0, 0, 0, 0)), (1060, .iaload, 1, (0, 0, 0, 0)), (1061, .aload_n 0, 1, (0, 0, 0, 0)), (1062, .iload 4, 2, (0, 0, 0, 0)), (1064, .iconst 2, 1, (0, 0, 0, 0)), (1065, .iadd, 1, (0, 0, 0, 0)), (1066, .iaload, 1, (0, 0, 0, 0))]
set_option maxRecDepth 100000 in
theorem tk_L_law_10 : TOK RL false cL_law tb_L_law_10 := chkT_ok ft_L (by decide +kernel)
def tb_L_law_11 : Tab := [(1067, .invokevirtual 121, 3, (0, 0, 0, 0)), (1070, .if_icmp .eq 263, 3, (0, 0, 0, 0)), (1073, .iconst 0, 1, (0, 0, 0, 0)), (1074, .ireturn, 1, (0, 0, 0, 0)), (1075, .aload_n 1, 1, (0, 0, 0, 0)), (1076, .invokevirtual 122, 3, (0, 0, 0, 0)), (1079, .aload_n 2, 1, (0, 0, 0, 0)), (1080, .invokevirtual 125, 3, (0, 0, 0, 0)), (1083, .if_icmp .eq 250, 3, (0, 0, 0, 0)), (1086, .iconst 0, 1, (0, 0, 0, 0)), (1087, .ireturn, 1, (0, 0, 0, 0)), (1088, .aload_n 1, 1, (0, 0, 0, 0)), (1089, .aload_n 0, 1, (0, 0, 0, 0)), (1090, .iload 4, 2, (0, 0, 0, 0)), (1092, .iconst 1, 1, (0, 0, 0, 0)), (1093, .iadd, 1, (0, 0, 0, 0)), (1094, .iaload, 1, (0, 0, 0, 0)), (1095, .aload_n 0, 1, (0, 0, 0, 0)), (1096, .iload 4, 2, (0, 0, 0, 0)), (1098, .iconst 2, 1, (0, 0, 0, 0)), (1099, .iadd, 1, (0, 0, 0, 0)), (1100, .iaload, 1, (0, 0, 0, 0)), (1101, .ifCond .eq 7, 3, (0, 0, 0, 0)), (1104, .iconst 1, 1, (0, 0, 0, 0)), (1105, .goto 4, 3, (0, 0, 0, 0)), (1108, .iconst 0, 1, (0, 0, 0, 0)), (1109, .invokevirtual 126, 3, (0, 0, 0, 0)), (1112, .aload_n 2, 1, (0, 0, 0, 0)), (1113, .aload_n 0, 1, (0, 0, 0, 0)), (1114, .iload 4, 2, (0, 0, 0, 0)), (1116, .iconst 1, 1, (0, 0, 0, 0)), (1117, .iadd, 1, (0, 0, 0, 0)), (1118, .iaload, 1, (0, 0, 0, 0)), (1119, .aload_n 0, 1, (0, 0, 0, 0)), (1120, .iload 4, 2, (0, 0, 0, 0)), (1122, .iconst 2, 1, (0, 0, 0, 0)), (1123, .iadd, 1, (0, 0, 0, 0)), (1124, .iaload, 1, (0, 0, 0, 0)), (1125, .ifCond .eq 7, 3, (0, 0, 0, 0)), (1128, .iconst 1, 1, (0, 0, 0, 0)), (1129, .goto 4, 3, (0, 0, 0, 0)), (1132, .iconst 0, 1, (0, 0, 0, 0)), (1133, .invokevirtual 129, 3, (0, 0, 0, 0)), (1136, .if_icmp .eq 197, 3, (0, 0, 0, 0)), (1139, .iconst 0, 1, (0, 0, 0, 0)), (1140, .ireturn, 1, (0, 0, 0, 0)), (1141, .aload_n 1, 1, (0, 0, 0, 0)), (1142, .aload_n 0, 1, (0, 0, 0, 0)), (1143, .iload 4, 2, (0, 0, 0, 0)), (1145, .iconst 1, 1, (0, 0, 0, 0)), (1146, .iadd, 1, (0, 0, 0, 0)), (1147, .iaload, 1, (0, 0, 0, 0)), (1148, .aload_n 0, 1, (0, 0, 0, 0)), (1149, .iload 4, 2, (0, 0, 0, 0)), (1151, .iconst 2, 1, (0, 0, 0, 0)), (1152, .iadd, 1, (0, 0, 0, 0)), (1153, .iaload, 1, (0, 0, 0, 0)), (1154, .invokevirtual 130, 3, (0, 0, 0, 0)), (1157, .aload_n 2, 1, (0, 0, 0, 0)), (1158, .aload_n 0, 1, (0, 0, 0, 0))]
set_option maxRecDepth 100000 in
theorem tk_L_law_11 : TOK RL false cL_law tb_L_law_11 := chkT_ok ft_L (by decide +kernel)
def tb_L_law_12 : Tab := [(1159, .iload 4, 2, (0, 0, 0, 0)), (1161, .iconst 1, 1, (0, 0, 0, 0)), (1162, .iadd, 1, (0, 0, 0, 0)), (1163, .iaload, 1, (0, 0, 0, 0)), (1164, .aload_n 0, 1, (0, 0, 0, 0)), (1165, .iload 4, 2, (0, 0, 0, 0)), (1167, .iconst 2, 1, (0, 0, 0, 0)), (1168, .iadd, 1, (0, 0, 0, 0)), (1169, .iaload, 1, (0, 0, 0, 0)), (1170, .invokevirtual 133, 3, (0, 0, 0, 0)), (1173, .if_icmp .eq 160, 3, (0, 0, 0, 0)), (1176, .iconst 0, 1, (0, 0, 0, 0)), (1177, .ireturn, 1, (0, 0, 0, 0)), (1178, .aload_n 1, 1, (0, 0, 0, 0)), (1179, .aload_n 0, 1, (0, 0, 0, 0)), (1180, .iload 4, 2, (0, 0, 0, 0)), (1182, .iconst 1, 1, (0, 0, 0, 0)), (1183, .iadd, 1, (0, 0, 0, 0)), (1184, .iaload, 1, (0, 0, 0, 0)), (1185, .aload_n 0, 1, (0, 0, 0, 0)), (1186, .iload 4, 2, (0, 0, 0, 0)), (1188, .iconst 2, 1, (0, 0, 0, 0)), (1189, .iadd, 1, (0, 0, 0, 0)), (1190, .iaload, 1, (0, 0, 0, 0)), (1191, .invokevirtual 134, 3, (0, 0, 0, 0)), (1194, .aload_n 2, 1, (0, 0, 0, 0)), (1195, .aload_n 0, 1, (0, 0, 0, 0)), (1196, .iload 4, 2, (0, 0, 0, 0)), (1198, .iconst 1, 1, (0, 0, 0, 0)), (1199, .iadd, 1, (0, 0, 0, 0)), (1200, .iaload, 1, (0, 0, 0, 0)), (1201, .aload_n 0, 1, (0, 0, 0, 0)), (1202, .iload 4, 2, (0, 0, 0, 0)), (1204, .iconst 2, 1, (0, 0, 0, 0)), (1205, .iadd, 1, (0, 0, 0, 0)), (1206, .iaload, 1, (0, 0, 0, 0)), (1207, .invokevirtual 137, 3, (0, 0, 0, 0)), (1210, .if_icmp .eq 123, 3, (0, 0, 0, 0)), (1213, .iconst 0, 1, (0, 0, 0, 0)), (1214, .ireturn, 1, (0, 0, 0, 0)), (1215, .aload_n 1, 1, (0, 0, 0, 0)), (1216, .aload_n 0, 1, (0, 0, 0, 0)), (1217, .iload 4, 2, (0, 0, 0, 0)), (1219, .iconst 1, 1, (0, 0, 0, 0)), (1220, .iadd, 1, (0, 0, 0, 0)), (1221, .iaload, 1, (0, 0, 0, 0)), (1222, .invokevirtual 138, 3, (0, 0, 0, 0)), (1225, .aload_n 2, 1, (0, 0, 0, 0)), (1226, .aload_n 0, 1, (0, 0, 0, 0)), (1227, .iload 4, 2, (0, 0, 0, 0)), (1229, .iconst 1, 1, (0, 0, 0, 0)), (1230, .iadd, 1, (0, 0, 0, 0)), (1231, .iaload, 1, (0, 0, 0, 0)), (1232, .invokevirtual 141, 3, (0, 0, 0, 0)), (1235, .if_icmp .eq 98, 3, (0, 0, 0, 0)), (1238, .iconst 0, 1, (0, 0, 0, 0)), (1239, .ireturn, 1, (0, 0, 0, 0)), (1240, .aload_n 1, 1, (0, 0, 0, 0)), (1241, .aload_n 0, 1, (0, 0, 0, 0)), (1242, .iload 4, 2, (0, 0, 0, 0))]
set_option maxRecDepth 100000 in
theorem tk_L_law_12 : TOK RL false cL_law tb_L_law_12 := chkT_ok ft_L (by decide +kernel)
def tb_L_law_13 : Tab := [(1244, .iconst 1, 1, (0, 0, 0, 0)), (1245, .iadd, 1, (0, 0, 0, 0)), (1246, .iaload, 1, (0, 0, 0, 0)), (1247, .aload_n 0, 1, (0, 0, 0, 0)), (1248, .iload 4, 2, (0, 0, 0, 0)), (1250, .iconst 2, 1, (0, 0, 0, 0)), (1251, .iadd, 1, (0, 0, 0, 0)), (1252, .iaload, 1, (0, 0, 0, 0)), (1253, .aload_n 3, 1, (0, 0, 0, 0)), (1257, .istore 5, 2, (0, 0, 0, 0)), (1259, .aload_n 2, 1, (0, 0, 0, 0)), (1260, .aload_n 0, 1, (0, 0, 0, 0)), (1261, .iload 4, 2, (0, 0, 0, 0)), (1263, .iconst 1, 1, (0, 0, 0, 0)), (1264, .iadd, 1, (0, 0, 0, 0)), (1265, .iaload, 1, (0, 0, 0, 0)), (1266, .aload_n 0, 1, (0, 0, 0, 0)), (1267, .iload 4, 2, (0, 0, 0, 0)), (1269, .iconst 2, 1, (0, 0, 0, 0)), (1270, .iadd, 1, (0, 0, 0, 0)), (1271, .iaload, 1, (0, 0, 0, 0)), (1272, .invokevirtual 147, 3, (0, 0, 0, 0)), (1275, .istore 6, 2, (0, 0, 0, 0)), (1277, .aload_n 2, 1, (0, 0, 0, 0)), (1278, .invokevirtual 148, 3, (0, 0, 0, 0)), (1281, .iload 5, 2, (0, 0, 0, 0)), (1283, .if_icmp .eq 5, 3, (0, 0, 0, 0)), (1286, .iconst 0, 1, (0, 0, 0, 0)), (1287, .ireturn, 1, (0, 0, 0, 0)), (1288, .iload 5, 2, (0, 0, 0, 0)), (1290, .ifCond .ne 15, 3, (0, 0, 0, 0)), (1293, .aload_n 3, 1, (0, 0, 0, 0)), (1294, .iconst 0, 1, (0, 0, 0, 0)), (1295, .laload, 1, (0, 0, 0, 0)), (1296, .iload 6, 2, (0, 0, 0, 0)), (1298, .i2l, 1, (0, 0, 0, 0)), (1299, .lcmp, 1, (0, 0, 0, 0)), (1300, .ifCond .eq 5, 3, (0, 0, 0, 0)), (1303, .iconst 0, 1, (0, 0, 0, 0)), (1304, .ireturn, 1, (0, 0, 0, 0)), (1305, .goto 28, 3, (0, 0, 0, 0)), (1308, .aload_n 1, 1, (0, 0, 0, 0)), (1309, .aload_n 0, 1, (0, 0, 0, 0)), (1310, .iload 4, 2, (0, 0, 0, 0)), (1312, .iconst 1, 1, (0, 0, 0, 0)), (1313, .iadd, 1, (0, 0, 0, 0)), (1314, .iaload, 1, (0, 0, 0, 0)), (1315, .invokevirtual 151, 3, (0, 0, 0, 0)), (1318, .aload_n 2, 1, (0, 0, 0, 0)), (1319, .aload_n 0, 1, (0, 0, 0, 0)), (1320, .iload 4, 2, (0, 0, 0, 0)), (1322, .iconst 1, 1, (0, 0, 0, 0)), (1323, .iadd, 1, (0, 0, 0, 0)), (1324, .iaload, 1, (0, 0, 0, 0)), (1325, .invokevirtual 154, 3, (0, 0, 0, 0)), (1328, .if_icmp .eq 5, 3, (0, 0, 0, 0)), (1331, .iconst 0, 1, (0, 0, 0, 0)), (1332, .ireturn, 1, (0, 0, 0, 0)), (1333, .iinc 4 7, 3, (0, 0, 0, 0)), (1336, .goto (-1313), 3, (0, 0, 0, 0))]
set_option maxRecDepth 100000 in
theorem tk_L_law_13 : TOK RL false cL_law tb_L_law_13 := chkT_ok ft_L (by decide +kernel)
def tb_L_law_14 : Tab := [(1339, .iconst 1, 1, (0, 0, 0, 0)), (1340, .ireturn, 1, (0, 0, 0, 0))]
set_option maxRecDepth 100000 in
theorem tk_L_law_14 : TOK RL false cL_law tb_L_law_14 := chkT_ok ft_L (by decide +kernel)
def tb_L_law : Tab := tb_L_law_0 ++ (tb_L_law_1 ++ (tb_L_law_2 ++ (tb_L_law_3 ++ (tb_L_law_4 ++ (tb_L_law_5 ++ (tb_L_law_6 ++ (tb_L_law_7 ++ (tb_L_law_8 ++ (tb_L_law_9 ++ (tb_L_law_10 ++ (tb_L_law_11 ++ (tb_L_law_12 ++ (tb_L_law_13 ++ (tb_L_law_14))))))))))))))
theorem tk_L_law : TOK RL false cL_law tb_L_law := fun q hq => by
  rcases List.mem_append.mp hq with h | hq
  · exact tk_L_law_0 q h
  rcases List.mem_append.mp hq with h | hq
  · exact tk_L_law_1 q h
  rcases List.mem_append.mp hq with h | hq
  · exact tk_L_law_2 q h
  rcases List.mem_append.mp hq with h | hq
  · exact tk_L_law_3 q h
  rcases List.mem_append.mp hq with h | hq
  · exact tk_L_law_4 q h
  rcases List.mem_append.mp hq with h | hq
  · exact tk_L_law_5 q h
  rcases List.mem_append.mp hq with h | hq
  · exact tk_L_law_6 q h
  rcases List.mem_append.mp hq with h | hq
  · exact tk_L_law_7 q h
  rcases List.mem_append.mp hq with h | hq
  · exact tk_L_law_8 q h
  rcases List.mem_append.mp hq with h | hq
  · exact tk_L_law_9 q h
  rcases List.mem_append.mp hq with h | hq
  · exact tk_L_law_10 q h
  rcases List.mem_append.mp hq with h | hq
  · exact tk_L_law_11 q h
  rcases List.mem_append.mp hq with h | hq
  · exact tk_L_law_12 q h
  rcases List.mem_append.mp hq with h | hq
  · exact tk_L_law_13 q h
  exact tk_L_law_14 q hq
theorem rw_L_122 : Row RL (.invokespecial 15) 3 1 60 6311 6 sp_X11_init := row_I (n := 0) c_X11_init ⟨TBL_in 144 (by decide +kernel) rfl, TBL_in 146 (by decide +kernel) rfl, TBL_in 111 (by decide +kernel) rfl, by decide +kernel, by decide⟩ (TBL_in 145 (by decide +kernel) rfl) rfl (rcn_X11_init)
theorem rw_L_146 : Row RL (.invokespecial 18) 3 1 58 32433 1 sp_X12_init := row_I (n := 0) c_X12_init ⟨TBL_in 1495 (by decide +kernel) rfl, TBL_in 1497 (by decide +kernel) rfl, TBL_in 123 (by decide +kernel) rfl, by decide +kernel, by decide⟩ (TBL_in 1496 (by decide +kernel) rfl) rfl (rcn_X12_init)
theorem rw_L_152 : Row RL (.invokevirtual 19) 3 2 0 0 6 sp_X11_ticks := row_V (n := 1) (ci := 11) c_X11_ticks ⟨TBL_in 469 (by decide +kernel) rfl, TBL_in 472 (by decide +kernel) rfl, TBL_in 111 (by decide +kernel) rfl, by decide +kernel, by decide⟩ (by decide) rfl (TBL_in 470 (by decide +kernel) rfl) (TBL_in 471 (by decide +kernel) rfl) rc_X11_ticks
theorem rw_L_184 : Row RL (.invokevirtual 23) 3 2 0 0 5 sp_X12_ticks := row_V (n := 1) (ci := 12) c_X12_ticks ⟨TBL_in 1798 (by decide +kernel) rfl, TBL_in 1801 (by decide +kernel) rfl, TBL_in 123 (by decide +kernel) rfl, by decide +kernel, by decide⟩ (by decide) rfl (TBL_in 1799 (by decide +kernel) rfl) (TBL_in 1800 (by decide +kernel) rfl) rc_X12_ticks
theorem rw_L_192 : Row RL (.invokevirtual 24) 3 7 3 314 8 sp_X11_box := row_V (n := 6) (ci := 11) c_X11_box ⟨TBL_in 525 (by decide +kernel) rfl, TBL_in 528 (by decide +kernel) rfl, TBL_in 111 (by decide +kernel) rfl, by decide +kernel, by decide⟩ (by decide) rfl (TBL_in 526 (by decide +kernel) rfl) (TBL_in 527 (by decide +kernel) rfl) rc_X11_box
theorem rw_L_224 : Row RL (.invokevirtual 28) 3 7 0 0 3 sp_X12_box := row_V (n := 6) (ci := 12) c_X12_box ⟨TBL_in 1768 (by decide +kernel) rfl, TBL_in 1771 (by decide +kernel) rfl, TBL_in 123 (by decide +kernel) rfl, by decide +kernel, by decide⟩ (by decide) rfl (TBL_in 1769 (by decide +kernel) rfl) (TBL_in 1770 (by decide +kernel) rfl) rc_X12_box
theorem rw_L_232 : Row RL (.invokevirtual 29) 3 2 0 0 5 sp_X11_pull := row_V (n := 1) (ci := 11) c_X11_pull ⟨TBL_in 693 (by decide +kernel) rfl, TBL_in 696 (by decide +kernel) rfl, TBL_in 111 (by decide +kernel) rfl, by decide +kernel, by decide⟩ (by decide) rfl (TBL_in 694 (by decide +kernel) rfl) (TBL_in 695 (by decide +kernel) rfl) rc_X11_pull
theorem rw_L_264 : Row RL (.invokevirtual 33) 3 2 0 0 5 sp_X12_pull := row_V (n := 1) (ci := 12) c_X12_pull ⟨TBL_in 1778 (by decide +kernel) rfl, TBL_in 1781 (by decide +kernel) rfl, TBL_in 123 (by decide +kernel) rfl, by decide +kernel, by decide⟩ (by decide) rfl (TBL_in 1779 (by decide +kernel) rfl) (TBL_in 1780 (by decide +kernel) rfl) rc_X12_pull
theorem rw_L_272 : Row RL (.invokevirtual 34) 3 4 0 0 3 sp_X11_cut := row_V (n := 3) (ci := 11) c_X11_cut ⟨TBL_in 703 (by decide +kernel) rfl, TBL_in 706 (by decide +kernel) rfl, TBL_in 111 (by decide +kernel) rfl, by decide +kernel, by decide⟩ (by decide) rfl (TBL_in 704 (by decide +kernel) rfl) (TBL_in 705 (by decide +kernel) rfl) rc_X11_cut
theorem rw_L_304 : Row RL (.invokevirtual 38) 3 4 0 0 2 sp_X12_cut := row_V (n := 3) (ci := 12) c_X12_cut ⟨TBL_in 1794 (by decide +kernel) rfl, TBL_in 1797 (by decide +kernel) rfl, TBL_in 123 (by decide +kernel) rfl, by decide +kernel, by decide⟩ (by decide) rfl (TBL_in 1795 (by decide +kernel) rfl) (TBL_in 1796 (by decide +kernel) rfl) rc_X12_cut
theorem rw_L_312 : Row RL (.invokevirtual 39) 3 3 0 0 2 sp_X11_knocked := row_V (n := 2) (ci := 11) c_X11_knocked ⟨TBL_in 715 (by decide +kernel) rfl, TBL_in 718 (by decide +kernel) rfl, TBL_in 111 (by decide +kernel) rfl, by decide +kernel, by decide⟩ (by decide) rfl (TBL_in 716 (by decide +kernel) rfl) (TBL_in 717 (by decide +kernel) rfl) rc_X11_knocked
theorem rw_L_336 : Row RL (.invokevirtual 42) 3 3 0 0 2 sp_X12_knocked := row_V (n := 2) (ci := 12) c_X12_knocked ⟨TBL_in 1815 (by decide +kernel) rfl, TBL_in 1818 (by decide +kernel) rfl, TBL_in 123 (by decide +kernel) rfl, by decide +kernel, by decide⟩ (by decide) rfl (TBL_in 1816 (by decide +kernel) rfl) (TBL_in 1817 (by decide +kernel) rfl) rc_X12_knocked
theorem rw_L_344 : Row RL (.invokevirtual 43) 3 4 0 0 23 sp_X11_reading := row_V (n := 3) (ci := 11) c_X11_reading ⟨TBL_in 723 (by decide +kernel) rfl, TBL_in 726 (by decide +kernel) rfl, TBL_in 111 (by decide +kernel) rfl, by decide +kernel, by decide⟩ (by decide) rfl (TBL_in 724 (by decide +kernel) rfl) (TBL_in 725 (by decide +kernel) rfl) rc_X11_reading
theorem rw_L_376 : Row RL (.invokevirtual 47) 3 4 0 0 5 sp_X12_reading := row_V (n := 3) (ci := 12) c_X12_reading ⟨TBL_in 1823 (by decide +kernel) rfl, TBL_in 1826 (by decide +kernel) rfl, TBL_in 123 (by decide +kernel) rfl, by decide +kernel, by decide⟩ (by decide) rfl (TBL_in 1824 (by decide +kernel) rfl) (TBL_in 1825 (by decide +kernel) rfl) rc_X12_reading
theorem rw_L_384 : Row RL (.invokevirtual 48) 3 1 0 0 1 sp_X11_stories := row_V (n := 0) (ci := 11) c_X11_stories ⟨TBL_in 802 (by decide +kernel) rfl, TBL_in 805 (by decide +kernel) rfl, TBL_in 111 (by decide +kernel) rfl, by decide +kernel, by decide⟩ (by decide) rfl (TBL_in 803 (by decide +kernel) rfl) (TBL_in 804 (by decide +kernel) rfl) rc_X11_stories
theorem rw_L_416 : Row RL (.invokevirtual 52) 3 1 0 0 1 sp_X12_stories := row_V (n := 0) (ci := 12) c_X12_stories ⟨TBL_in 1863 (by decide +kernel) rfl, TBL_in 1866 (by decide +kernel) rfl, TBL_in 123 (by decide +kernel) rfl, by decide +kernel, by decide⟩ (by decide) rfl (TBL_in 1864 (by decide +kernel) rfl) (TBL_in 1865 (by decide +kernel) rfl) rc_X12_stories
theorem rw_L_424 : Row RL (.invokevirtual 53) 3 4 0 0 5 sp_X11_story := row_V (n := 3) (ci := 11) c_X11_story ⟨TBL_in 806 (by decide +kernel) rfl, TBL_in 809 (by decide +kernel) rfl, TBL_in 111 (by decide +kernel) rfl, by decide +kernel, by decide⟩ (by decide) rfl (TBL_in 807 (by decide +kernel) rfl) (TBL_in 808 (by decide +kernel) rfl) rc_X11_story
theorem rw_L_448 : Row RL (.invokevirtual 56) 3 4 0 0 3 sp_X12_story := row_V (n := 3) (ci := 12) c_X12_story ⟨TBL_in 1867 (by decide +kernel) rfl, TBL_in 1870 (by decide +kernel) rfl, TBL_in 123 (by decide +kernel) rfl, by decide +kernel, by decide⟩ (by decide) rfl (TBL_in 1868 (by decide +kernel) rfl) (TBL_in 1869 (by decide +kernel) rfl) rc_X12_story
theorem rw_L_456 : Row RL (.invokevirtual 57) 3 1 0 0 5 sp_X11_ask := row_V (n := 0) (ci := 11) c_X11_ask ⟨TBL_in 827 (by decide +kernel) rfl, TBL_in 830 (by decide +kernel) rfl, TBL_in 111 (by decide +kernel) rfl, by decide +kernel, by decide⟩ (by decide) rfl (TBL_in 828 (by decide +kernel) rfl) (TBL_in 829 (by decide +kernel) rfl) rc_X11_ask
theorem rw_L_480 : Row RL (.invokevirtual 60) 3 1 0 0 2 sp_X12_ask := row_V (n := 0) (ci := 12) c_X12_ask ⟨TBL_in 1871 (by decide +kernel) rfl, TBL_in 1874 (by decide +kernel) rfl, TBL_in 123 (by decide +kernel) rfl, by decide +kernel, by decide⟩ (by decide) rfl (TBL_in 1872 (by decide +kernel) rfl) (TBL_in 1873 (by decide +kernel) rfl) rc_X12_ask
theorem rw_L_488 : Row RL (.invokevirtual 61) 3 3 0 0 2 sp_X11_house := row_V (n := 2) (ci := 11) c_X11_house ⟨TBL_in 840 (by decide +kernel) rfl, TBL_in 843 (by decide +kernel) rfl, TBL_in 111 (by decide +kernel) rfl, by decide +kernel, by decide⟩ (by decide) rfl (TBL_in 841 (by decide +kernel) rfl) (TBL_in 842 (by decide +kernel) rfl) rc_X11_house
theorem rw_L_512 : Row RL (.invokevirtual 64) 3 3 0 0 3 sp_X12_house := row_V (n := 2) (ci := 12) c_X12_house ⟨TBL_in 1876 (by decide +kernel) rfl, TBL_in 1879 (by decide +kernel) rfl, TBL_in 123 (by decide +kernel) rfl, by decide +kernel, by decide⟩ (by decide) rfl (TBL_in 1877 (by decide +kernel) rfl) (TBL_in 1878 (by decide +kernel) rfl) rc_X12_house
theorem rw_L_520 : Row RL (.invokevirtual 65) 3 3 2 155 9 sp_X11_company := row_V (n := 2) (ci := 11) c_X11_company ⟨TBL_in 848 (by decide +kernel) rfl, TBL_in 851 (by decide +kernel) rfl, TBL_in 111 (by decide +kernel) rfl, by decide +kernel, by decide⟩ (by decide) rfl (TBL_in 849 (by decide +kernel) rfl) (TBL_in 850 (by decide +kernel) rfl) rc_X11_company
theorem rw_L_544 : Row RL (.invokevirtual 68) 3 3 0 0 3 sp_X12_company := row_V (n := 2) (ci := 12) c_X12_company ⟨TBL_in 1880 (by decide +kernel) rfl, TBL_in 1883 (by decide +kernel) rfl, TBL_in 123 (by decide +kernel) rfl, by decide +kernel, by decide⟩ (by decide) rfl (TBL_in 1881 (by decide +kernel) rfl) (TBL_in 1882 (by decide +kernel) rfl) rc_X12_company
theorem rw_L_552 : Row RL (.invokevirtual 69) 3 3 0 0 1 sp_X11_pace := row_V (n := 2) (ci := 11) c_X11_pace ⟨TBL_in 888 (by decide +kernel) rfl, TBL_in 891 (by decide +kernel) rfl, TBL_in 111 (by decide +kernel) rfl, by decide +kernel, by decide⟩ (by decide) rfl (TBL_in 889 (by decide +kernel) rfl) (TBL_in 890 (by decide +kernel) rfl) rc_X11_pace
theorem rw_L_584 : Row RL (.invokevirtual 73) 3 3 0 0 3 sp_X12_pace := row_V (n := 2) (ci := 12) c_X12_pace ⟨TBL_in 1884 (by decide +kernel) rfl, TBL_in 1887 (by decide +kernel) rfl, TBL_in 123 (by decide +kernel) rfl, by decide +kernel, by decide⟩ (by decide) rfl (TBL_in 1885 (by decide +kernel) rfl) (TBL_in 1886 (by decide +kernel) rfl) rc_X12_pace
theorem rw_L_608 : Row RL (.invokevirtual 76) 3 4 0 0 3 sp_X11_feed := row_V (n := 3) (ci := 11) c_X11_feed ⟨TBL_in 892 (by decide +kernel) rfl, TBL_in 895 (by decide +kernel) rfl, TBL_in 111 (by decide +kernel) rfl, by decide +kernel, by decide⟩ (by decide) rfl (TBL_in 893 (by decide +kernel) rfl) (TBL_in 894 (by decide +kernel) rfl) rc_X11_feed
theorem rw_L_640 : Row RL (.invokevirtual 80) 3 4 0 0 1 sp_X12_feed := row_V (n := 3) (ci := 12) c_X12_feed ⟨TBL_in 1888 (by decide +kernel) rfl, TBL_in 1891 (by decide +kernel) rfl, TBL_in 123 (by decide +kernel) rfl, by decide +kernel, by decide⟩ (by decide) rfl (TBL_in 1889 (by decide +kernel) rfl) (TBL_in 1890 (by decide +kernel) rfl) rc_X12_feed
theorem rw_L_648 : Row RL (.invokevirtual 81) 3 1 0 0 42 sp_X11_cards := row_V (n := 0) (ci := 11) c_X11_cards ⟨TBL_in 905 (by decide +kernel) rfl, TBL_in 908 (by decide +kernel) rfl, TBL_in 111 (by decide +kernel) rfl, by decide +kernel, by decide⟩ (by decide) rfl (TBL_in 906 (by decide +kernel) rfl) (TBL_in 907 (by decide +kernel) rfl) rc_X11_cards
theorem rw_L_672 : Row RL (.invokevirtual 84) 3 1 0 0 5 sp_X12_cards := row_V (n := 0) (ci := 12) c_X12_cards ⟨TBL_in 1893 (by decide +kernel) rfl, TBL_in 1896 (by decide +kernel) rfl, TBL_in 123 (by decide +kernel) rfl, by decide +kernel, by decide⟩ (by decide) rfl (TBL_in 1894 (by decide +kernel) rfl) (TBL_in 1895 (by decide +kernel) rfl) rc_X12_cards
theorem rw_L_680 : Row RL (.invokevirtual 85) 3 2 3 178 9 sp_X11_alarm := row_V (n := 1) (ci := 11) c_X11_alarm ⟨TBL_in 1126 (by decide +kernel) rfl, TBL_in 1129 (by decide +kernel) rfl, TBL_in 111 (by decide +kernel) rfl, by decide +kernel, by decide⟩ (by decide) rfl (TBL_in 1127 (by decide +kernel) rfl) (TBL_in 1128 (by decide +kernel) rfl) rc_X11_alarm
theorem rw_L_704 : Row RL (.invokevirtual 88) 3 2 0 0 5 sp_X12_alarm := row_V (n := 1) (ci := 12) c_X12_alarm ⟨TBL_in 1949 (by decide +kernel) rfl, TBL_in 1952 (by decide +kernel) rfl, TBL_in 123 (by decide +kernel) rfl, by decide +kernel, by decide⟩ (by decide) rfl (TBL_in 1950 (by decide +kernel) rfl) (TBL_in 1951 (by decide +kernel) rfl) rc_X12_alarm
theorem rw_L_712 : Row RL (.invokevirtual 89) 3 2 0 0 8 sp_X11_again := row_V (n := 1) (ci := 11) c_X11_again ⟨TBL_in 1260 (by decide +kernel) rfl, TBL_in 1263 (by decide +kernel) rfl, TBL_in 111 (by decide +kernel) rfl, by decide +kernel, by decide⟩ (by decide) rfl (TBL_in 1261 (by decide +kernel) rfl) (TBL_in 1262 (by decide +kernel) rfl) rc_X11_again
theorem rw_L_736 : Row RL (.invokevirtual 92) 3 2 0 0 5 sp_X12_again := row_V (n := 1) (ci := 12) c_X12_again ⟨TBL_in 1995 (by decide +kernel) rfl, TBL_in 1998 (by decide +kernel) rfl, TBL_in 123 (by decide +kernel) rfl, by decide +kernel, by decide⟩ (by decide) rfl (TBL_in 1996 (by decide +kernel) rfl) (TBL_in 1997 (by decide +kernel) rfl) rc_X12_again
theorem rw_L_744 : Row RL (.invokevirtual 93) 3 3 0 0 5 sp_X11_sent := row_V (n := 2) (ci := 11) c_X11_sent ⟨TBL_in 1265 (by decide +kernel) rfl, TBL_in 1268 (by decide +kernel) rfl, TBL_in 111 (by decide +kernel) rfl, by decide +kernel, by decide⟩ (by decide) rfl (TBL_in 1266 (by decide +kernel) rfl) (TBL_in 1267 (by decide +kernel) rfl) rc_X11_sent
theorem rw_L_768 : Row RL (.invokevirtual 96) 3 3 0 0 3 sp_X12_sent := row_V (n := 2) (ci := 12) c_X12_sent ⟨TBL_in 2003 (by decide +kernel) rfl, TBL_in 2006 (by decide +kernel) rfl, TBL_in 123 (by decide +kernel) rfl, by decide +kernel, by decide⟩ (by decide) rfl (TBL_in 2004 (by decide +kernel) rfl) (TBL_in 2005 (by decide +kernel) rfl) rc_X12_sent
theorem rw_L_776 : Row RL (.invokevirtual 97) 3 3 0 0 6 sp_X11_over := row_V (n := 2) (ci := 11) c_X11_over ⟨TBL_in 1273 (by decide +kernel) rfl, TBL_in 1276 (by decide +kernel) rfl, TBL_in 111 (by decide +kernel) rfl, by decide +kernel, by decide⟩ (by decide) rfl (TBL_in 1274 (by decide +kernel) rfl) (TBL_in 1275 (by decide +kernel) rfl) rc_X11_over
theorem rw_L_808 : Row RL (.invokevirtual 101) 3 3 0 0 3 sp_X12_over := row_V (n := 2) (ci := 12) c_X12_over ⟨TBL_in 2007 (by decide +kernel) rfl, TBL_in 2010 (by decide +kernel) rfl, TBL_in 123 (by decide +kernel) rfl, by decide +kernel, by decide⟩ (by decide) rfl (TBL_in 2008 (by decide +kernel) rfl) (TBL_in 2009 (by decide +kernel) rfl) rc_X12_over
theorem rw_L_816 : Row RL (.invokevirtual 102) 3 2 0 0 5 sp_X11_at := row_V (n := 1) (ci := 11) c_X11_at ⟨TBL_in 1282 (by decide +kernel) rfl, TBL_in 1285 (by decide +kernel) rfl, TBL_in 111 (by decide +kernel) rfl, by decide +kernel, by decide⟩ (by decide) rfl (TBL_in 1283 (by decide +kernel) rfl) (TBL_in 1284 (by decide +kernel) rfl) rc_X11_at
theorem rw_L_840 : Row RL (.invokevirtual 105) 3 2 0 0 3 sp_X12_at := row_V (n := 1) (ci := 12) c_X12_at ⟨TBL_in 2011 (by decide +kernel) rfl, TBL_in 2014 (by decide +kernel) rfl, TBL_in 123 (by decide +kernel) rfl, by decide +kernel, by decide⟩ (by decide) rfl (TBL_in 2012 (by decide +kernel) rfl) (TBL_in 2013 (by decide +kernel) rfl) rc_X12_at
theorem rw_L_848 : Row RL (.invokevirtual 106) 3 2 0 0 5 sp_X11_there := row_V (n := 1) (ci := 11) c_X11_there ⟨TBL_in 1287 (by decide +kernel) rfl, TBL_in 1290 (by decide +kernel) rfl, TBL_in 111 (by decide +kernel) rfl, by decide +kernel, by decide⟩ (by decide) rfl (TBL_in 1288 (by decide +kernel) rfl) (TBL_in 1289 (by decide +kernel) rfl) rc_X11_there
theorem rw_L_872 : Row RL (.invokevirtual 109) 3 2 0 0 3 sp_X12_there := row_V (n := 1) (ci := 12) c_X12_there ⟨TBL_in 2019 (by decide +kernel) rfl, TBL_in 2022 (by decide +kernel) rfl, TBL_in 123 (by decide +kernel) rfl, by decide +kernel, by decide⟩ (by decide) rfl (TBL_in 2020 (by decide +kernel) rfl) (TBL_in 2021 (by decide +kernel) rfl) rc_X12_there
theorem rw_L_880 : Row RL (.invokevirtual 110) 3 2 0 0 5 sp_X11_covered := row_V (n := 1) (ci := 11) c_X11_covered ⟨TBL_in 1291 (by decide +kernel) rfl, TBL_in 1294 (by decide +kernel) rfl, TBL_in 111 (by decide +kernel) rfl, by decide +kernel, by decide⟩ (by decide) rfl (TBL_in 1292 (by decide +kernel) rfl) (TBL_in 1293 (by decide +kernel) rfl) rc_X11_covered
theorem rw_L_904 : Row RL (.invokevirtual 113) 3 2 0 0 5 sp_X12_covered := row_V (n := 1) (ci := 12) c_X12_covered ⟨TBL_in 2023 (by decide +kernel) rfl, TBL_in 2026 (by decide +kernel) rfl, TBL_in 123 (by decide +kernel) rfl, by decide +kernel, by decide⟩ (by decide) rfl (TBL_in 2024 (by decide +kernel) rfl) (TBL_in 2025 (by decide +kernel) rfl) rc_X12_covered
theorem rw_L_912 : Row RL (.invokevirtual 114) 3 1 0 0 12 sp_X11_moves := row_V (n := 0) (ci := 11) c_X11_moves ⟨TBL_in 1322 (by decide +kernel) rfl, TBL_in 1325 (by decide +kernel) rfl, TBL_in 111 (by decide +kernel) rfl, by decide +kernel, by decide⟩ (by decide) rfl (TBL_in 1323 (by decide +kernel) rfl) (TBL_in 1324 (by decide +kernel) rfl) rc_X11_moves
theorem rw_L_936 : Row RL (.invokevirtual 117) 3 1 0 0 6 sp_X12_moves := row_V (n := 0) (ci := 12) c_X12_moves ⟨TBL_in 2043 (by decide +kernel) rfl, TBL_in 2046 (by decide +kernel) rfl, TBL_in 123 (by decide +kernel) rfl, by decide +kernel, by decide⟩ (by decide) rfl (TBL_in 2044 (by decide +kernel) rfl) (TBL_in 2045 (by decide +kernel) rfl) rc_X12_moves
theorem rw_L_944 : Row RL (.invokevirtual 118) 3 3 0 0 12 sp_X11_move := row_V (n := 2) (ci := 11) c_X11_move ⟨TBL_in 1356 (by decide +kernel) rfl, TBL_in 1359 (by decide +kernel) rfl, TBL_in 111 (by decide +kernel) rfl, by decide +kernel, by decide⟩ (by decide) rfl (TBL_in 1357 (by decide +kernel) rfl) (TBL_in 1358 (by decide +kernel) rfl) rc_X11_move
theorem rw_L_968 : Row RL (.invokevirtual 121) 3 3 0 0 6 sp_X12_move := row_V (n := 2) (ci := 12) c_X12_move ⟨TBL_in 2063 (by decide +kernel) rfl, TBL_in 2066 (by decide +kernel) rfl, TBL_in 123 (by decide +kernel) rfl, by decide +kernel, by decide⟩ (by decide) rfl (TBL_in 2064 (by decide +kernel) rfl) (TBL_in 2065 (by decide +kernel) rfl) rc_X12_move
theorem rw_L_976 : Row RL (.invokevirtual 122) 3 1 0 0 12 sp_X11_done := row_V (n := 0) (ci := 11) c_X11_done ⟨TBL_in 1365 (by decide +kernel) rfl, TBL_in 1368 (by decide +kernel) rfl, TBL_in 111 (by decide +kernel) rfl, by decide +kernel, by decide⟩ (by decide) rfl (TBL_in 1366 (by decide +kernel) rfl) (TBL_in 1367 (by decide +kernel) rfl) rc_X11_done
theorem rw_L_1000 : Row RL (.invokevirtual 125) 3 1 0 0 6 sp_X12_done := row_V (n := 0) (ci := 12) c_X12_done ⟨TBL_in 2067 (by decide +kernel) rfl, TBL_in 2070 (by decide +kernel) rfl, TBL_in 123 (by decide +kernel) rfl, by decide +kernel, by decide⟩ (by decide) rfl (TBL_in 2068 (by decide +kernel) rfl) (TBL_in 2069 (by decide +kernel) rfl) rc_X12_done
theorem rw_L_1008 : Row RL (.invokevirtual 126) 3 3 0 0 5 sp_X11_word := row_V (n := 2) (ci := 11) c_X11_word ⟨TBL_in 1369 (by decide +kernel) rfl, TBL_in 1372 (by decide +kernel) rfl, TBL_in 111 (by decide +kernel) rfl, by decide +kernel, by decide⟩ (by decide) rfl (TBL_in 1370 (by decide +kernel) rfl) (TBL_in 1371 (by decide +kernel) rfl) rc_X11_word
theorem rw_L_1032 : Row RL (.invokevirtual 129) 3 3 0 0 3 sp_X12_word := row_V (n := 2) (ci := 12) c_X12_word ⟨TBL_in 2071 (by decide +kernel) rfl, TBL_in 2074 (by decide +kernel) rfl, TBL_in 123 (by decide +kernel) rfl, by decide +kernel, by decide⟩ (by decide) rfl (TBL_in 2072 (by decide +kernel) rfl) (TBL_in 2073 (by decide +kernel) rfl) rc_X12_word
theorem rw_L_1040 : Row RL (.invokevirtual 130) 3 3 0 0 6 sp_X11_known := row_V (n := 2) (ci := 11) c_X11_known ⟨TBL_in 1377 (by decide +kernel) rfl, TBL_in 1380 (by decide +kernel) rfl, TBL_in 111 (by decide +kernel) rfl, by decide +kernel, by decide⟩ (by decide) rfl (TBL_in 1378 (by decide +kernel) rfl) (TBL_in 1379 (by decide +kernel) rfl) rc_X11_known
theorem rw_L_1064 : Row RL (.invokevirtual 133) 3 3 0 0 3 sp_X12_known := row_V (n := 2) (ci := 12) c_X12_known ⟨TBL_in 2075 (by decide +kernel) rfl, TBL_in 2078 (by decide +kernel) rfl, TBL_in 123 (by decide +kernel) rfl, by decide +kernel, by decide⟩ (by decide) rfl (TBL_in 2076 (by decide +kernel) rfl) (TBL_in 2077 (by decide +kernel) rfl) rc_X12_known
theorem rw_L_1072 : Row RL (.invokevirtual 134) 3 3 0 0 7 sp_X11_rate := row_V (n := 2) (ci := 11) c_X11_rate ⟨TBL_in 1386 (by decide +kernel) rfl, TBL_in 1389 (by decide +kernel) rfl, TBL_in 111 (by decide +kernel) rfl, by decide +kernel, by decide⟩ (by decide) rfl (TBL_in 1387 (by decide +kernel) rfl) (TBL_in 1388 (by decide +kernel) rfl) rc_X11_rate
theorem rw_L_1096 : Row RL (.invokevirtual 137) 3 3 0 0 3 sp_X12_rate := row_V (n := 2) (ci := 12) c_X12_rate ⟨TBL_in 2083 (by decide +kernel) rfl, TBL_in 2086 (by decide +kernel) rfl, TBL_in 123 (by decide +kernel) rfl, by decide +kernel, by decide⟩ (by decide) rfl (TBL_in 2084 (by decide +kernel) rfl) (TBL_in 2085 (by decide +kernel) rfl) rc_X12_rate
theorem rw_L_1104 : Row RL (.invokevirtual 138) 3 2 0 0 7 sp_X11_worst := row_V (n := 1) (ci := 11) c_X11_worst ⟨TBL_in 1390 (by decide +kernel) rfl, TBL_in 1393 (by decide +kernel) rfl, TBL_in 111 (by decide +kernel) rfl, by decide +kernel, by decide⟩ (by decide) rfl (TBL_in 1391 (by decide +kernel) rfl) (TBL_in 1392 (by decide +kernel) rfl) rc_X11_worst
theorem rw_L_1128 : Row RL (.invokevirtual 141) 3 2 0 0 3 sp_X12_worst := row_V (n := 1) (ci := 12) c_X12_worst ⟨TBL_in 2087 (by decide +kernel) rfl, TBL_in 2090 (by decide +kernel) rfl, TBL_in 123 (by decide +kernel) rfl, by decide +kernel, by decide⟩ (by decide) rfl (TBL_in 2088 (by decide +kernel) rfl) (TBL_in 2089 (by decide +kernel) rfl) rc_X12_worst
theorem rw_L_1176 : Row RL (.invokevirtual 147) 3 3 0 0 4 sp_X12_look := row_V (n := 2) (ci := 12) c_X12_look ⟨TBL_in 2091 (by decide +kernel) rfl, TBL_in 2094 (by decide +kernel) rfl, TBL_in 123 (by decide +kernel) rfl, by decide +kernel, by decide⟩ (by decide) rfl (TBL_in 2092 (by decide +kernel) rfl) (TBL_in 2093 (by decide +kernel) rfl) rc_X12_look
theorem rw_L_1184 : Row RL (.invokevirtual 148) 3 1 0 0 1 sp_X12_thrown := row_V (n := 0) (ci := 12) c_X12_thrown ⟨TBL_in 1764 (by decide +kernel) rfl, TBL_in 1767 (by decide +kernel) rfl, TBL_in 123 (by decide +kernel) rfl, by decide +kernel, by decide⟩ (by decide) rfl (TBL_in 1765 (by decide +kernel) rfl) (TBL_in 1766 (by decide +kernel) rfl) rc_X12_thrown
theorem rw_L_1208 : Row RL (.invokevirtual 151) 3 2 0 0 6 sp_X11_count := row_V (n := 1) (ci := 11) c_X11_count ⟨TBL_in 1394 (by decide +kernel) rfl, TBL_in 1397 (by decide +kernel) rfl, TBL_in 111 (by decide +kernel) rfl, by decide +kernel, by decide⟩ (by decide) rfl (TBL_in 1395 (by decide +kernel) rfl) (TBL_in 1396 (by decide +kernel) rfl) rc_X11_count
theorem rw_L_1232 : Row RL (.invokevirtual 154) 3 2 0 0 4 sp_X12_count := row_V (n := 1) (ci := 12) c_X12_count ⟨TBL_in 2099 (by decide +kernel) rfl, TBL_in 2102 (by decide +kernel) rfl, TBL_in 123 (by decide +kernel) rfl, by decide +kernel, by decide⟩ (by decide) rfl (TBL_in 2100 (by decide +kernel) rfl) (TBL_in 2101 (by decide +kernel) rfl) rc_X12_count
def mt_L_law : List (Nat × Mt) := [(122, 1, 60, 6311, 6, sp_X11_init), (146, 1, 58, 32433, 1, sp_X12_init), (152, 2, 0, 0, 6, sp_X11_ticks), (184, 2, 0, 0, 5, sp_X12_ticks), (192, 7, 3, 314, 8, sp_X11_box), (224, 7, 0, 0, 3, sp_X12_box), (232, 2, 0, 0, 5, sp_X11_pull), (264, 2, 0, 0, 5, sp_X12_pull), (272, 4, 0, 0, 3, sp_X11_cut), (304, 4, 0, 0, 2, sp_X12_cut), (312, 3, 0, 0, 2, sp_X11_knocked), (336, 3, 0, 0, 2, sp_X12_knocked), (344, 4, 0, 0, 23, sp_X11_reading), (376, 4, 0, 0, 5, sp_X12_reading), (384, 1, 0, 0, 1, sp_X11_stories), (416, 1, 0, 0, 1, sp_X12_stories), (424, 4, 0, 0, 5, sp_X11_story), (448, 4, 0, 0, 3, sp_X12_story), (456, 1, 0, 0, 5, sp_X11_ask), (480, 1, 0, 0, 2, sp_X12_ask), (488, 3, 0, 0, 2, sp_X11_house), (512, 3, 0, 0, 3, sp_X12_house), (520, 3, 2, 155, 9, sp_X11_company), (544, 3, 0, 0, 3, sp_X12_company), (552, 3, 0, 0, 1, sp_X11_pace), (584, 3, 0, 0, 3, sp_X12_pace), (608, 4, 0, 0, 3, sp_X11_feed), (640, 4, 0, 0, 1, sp_X12_feed), (648, 1, 0, 0, 42, sp_X11_cards), (672, 1, 0, 0, 5, sp_X12_cards), (680, 2, 3, 178, 9, sp_X11_alarm), (704, 2, 0, 0, 5, sp_X12_alarm), (712, 2, 0, 0, 8, sp_X11_again), (736, 2, 0, 0, 5, sp_X12_again), (744, 3, 0, 0, 5, sp_X11_sent), (768, 3, 0, 0, 3, sp_X12_sent), (776, 3, 0, 0, 6, sp_X11_over), (808, 3, 0, 0, 3, sp_X12_over), (816, 2, 0, 0, 5, sp_X11_at), (840, 2, 0, 0, 3, sp_X12_at), (848, 2, 0, 0, 5, sp_X11_there), (872, 2, 0, 0, 3, sp_X12_there), (880, 2, 0, 0, 5, sp_X11_covered), (904, 2, 0, 0, 5, sp_X12_covered), (912, 1, 0, 0, 12, sp_X11_moves), (936, 1, 0, 0, 6, sp_X12_moves), (944, 3, 0, 0, 12, sp_X11_move), (968, 3, 0, 0, 6, sp_X12_move), (976, 1, 0, 0, 12, sp_X11_done), (1000, 1, 0, 0, 6, sp_X12_done), (1008, 3, 0, 0, 5, sp_X11_word), (1032, 3, 0, 0, 3, sp_X12_word), (1040, 3, 0, 0, 6, sp_X11_known), (1064, 3, 0, 0, 3, sp_X12_known), (1072, 3, 0, 0, 7, sp_X11_rate), (1096, 3, 0, 0, 3, sp_X12_rate), (1104, 2, 0, 0, 7, sp_X11_worst), (1128, 2, 0, 0, 3, sp_X12_worst), (1176, 3, 0, 0, 4, sp_X12_look), (1184, 1, 0, 0, 1, sp_X12_thrown), (1208, 2, 0, 0, 6, sp_X11_count), (1232, 2, 0, 0, 4, sp_X12_count)]
theorem em_L_law : mt_L_law.lookup 122 = some (1, 60, 6311, 6, sp_X11_init) ∧ mt_L_law.lookup 146 = some (1, 58, 32433, 1, sp_X12_init) ∧ mt_L_law.lookup 152 = some (2, 0, 0, 6, sp_X11_ticks) ∧ mt_L_law.lookup 184 = some (2, 0, 0, 5, sp_X12_ticks) ∧ mt_L_law.lookup 192 = some (7, 3, 314, 8, sp_X11_box) ∧ mt_L_law.lookup 224 = some (7, 0, 0, 3, sp_X12_box) ∧ mt_L_law.lookup 232 = some (2, 0, 0, 5, sp_X11_pull) ∧ mt_L_law.lookup 264 = some (2, 0, 0, 5, sp_X12_pull) ∧ mt_L_law.lookup 272 = some (4, 0, 0, 3, sp_X11_cut) ∧ mt_L_law.lookup 304 = some (4, 0, 0, 2, sp_X12_cut) ∧ mt_L_law.lookup 312 = some (3, 0, 0, 2, sp_X11_knocked) ∧ mt_L_law.lookup 336 = some (3, 0, 0, 2, sp_X12_knocked) ∧ mt_L_law.lookup 344 = some (4, 0, 0, 23, sp_X11_reading) ∧ mt_L_law.lookup 376 = some (4, 0, 0, 5, sp_X12_reading) ∧ mt_L_law.lookup 384 = some (1, 0, 0, 1, sp_X11_stories) ∧ mt_L_law.lookup 416 = some (1, 0, 0, 1, sp_X12_stories) ∧ mt_L_law.lookup 424 = some (4, 0, 0, 5, sp_X11_story) ∧ mt_L_law.lookup 448 = some (4, 0, 0, 3, sp_X12_story) ∧ mt_L_law.lookup 456 = some (1, 0, 0, 5, sp_X11_ask) ∧ mt_L_law.lookup 480 = some (1, 0, 0, 2, sp_X12_ask) ∧ mt_L_law.lookup 488 = some (3, 0, 0, 2, sp_X11_house) ∧ mt_L_law.lookup 512 = some (3, 0, 0, 3, sp_X12_house) ∧ mt_L_law.lookup 520 = some (3, 2, 155, 9, sp_X11_company) ∧ mt_L_law.lookup 544 = some (3, 0, 0, 3, sp_X12_company) ∧ mt_L_law.lookup 552 = some (3, 0, 0, 1, sp_X11_pace) ∧ mt_L_law.lookup 584 = some (3, 0, 0, 3, sp_X12_pace) ∧ mt_L_law.lookup 608 = some (4, 0, 0, 3, sp_X11_feed) ∧ mt_L_law.lookup 640 = some (4, 0, 0, 1, sp_X12_feed) ∧ mt_L_law.lookup 648 = some (1, 0, 0, 42, sp_X11_cards) ∧ mt_L_law.lookup 672 = some (1, 0, 0, 5, sp_X12_cards) ∧ mt_L_law.lookup 680 = some (2, 3, 178, 9, sp_X11_alarm) ∧ mt_L_law.lookup 704 = some (2, 0, 0, 5, sp_X12_alarm) ∧ mt_L_law.lookup 712 = some (2, 0, 0, 8, sp_X11_again) ∧ mt_L_law.lookup 736 = some (2, 0, 0, 5, sp_X12_again) ∧ mt_L_law.lookup 744 = some (3, 0, 0, 5, sp_X11_sent) ∧ mt_L_law.lookup 768 = some (3, 0, 0, 3, sp_X12_sent) ∧ mt_L_law.lookup 776 = some (3, 0, 0, 6, sp_X11_over) ∧ mt_L_law.lookup 808 = some (3, 0, 0, 3, sp_X12_over) ∧ mt_L_law.lookup 816 = some (2, 0, 0, 5, sp_X11_at) ∧ mt_L_law.lookup 840 = some (2, 0, 0, 3, sp_X12_at) ∧ mt_L_law.lookup 848 = some (2, 0, 0, 5, sp_X11_there) ∧ mt_L_law.lookup 872 = some (2, 0, 0, 3, sp_X12_there) ∧ mt_L_law.lookup 880 = some (2, 0, 0, 5, sp_X11_covered) ∧ mt_L_law.lookup 904 = some (2, 0, 0, 5, sp_X12_covered) ∧ mt_L_law.lookup 912 = some (1, 0, 0, 12, sp_X11_moves) ∧ mt_L_law.lookup 936 = some (1, 0, 0, 6, sp_X12_moves) ∧ mt_L_law.lookup 944 = some (3, 0, 0, 12, sp_X11_move) ∧ mt_L_law.lookup 968 = some (3, 0, 0, 6, sp_X12_move) ∧ mt_L_law.lookup 976 = some (1, 0, 0, 12, sp_X11_done) ∧ mt_L_law.lookup 1000 = some (1, 0, 0, 6, sp_X12_done) ∧ mt_L_law.lookup 1008 = some (3, 0, 0, 5, sp_X11_word) ∧ mt_L_law.lookup 1032 = some (3, 0, 0, 3, sp_X12_word) ∧ mt_L_law.lookup 1040 = some (3, 0, 0, 6, sp_X11_known) ∧ mt_L_law.lookup 1064 = some (3, 0, 0, 3, sp_X12_known) ∧ mt_L_law.lookup 1072 = some (3, 0, 0, 7, sp_X11_rate) ∧ mt_L_law.lookup 1096 = some (3, 0, 0, 3, sp_X12_rate) ∧ mt_L_law.lookup 1104 = some (2, 0, 0, 7, sp_X11_worst) ∧ mt_L_law.lookup 1128 = some (2, 0, 0, 3, sp_X12_worst) ∧ mt_L_law.lookup 1176 = some (3, 0, 0, 4, sp_X12_look) ∧ mt_L_law.lookup 1184 = some (1, 0, 0, 1, sp_X12_thrown) ∧ mt_L_law.lookup 1208 = some (2, 0, 0, 6, sp_X11_count) ∧ mt_L_law.lookup 1232 = some (2, 0, 0, 4, sp_X12_count) := ⟨rfl, rfl, rfl, rfl, rfl, rfl, rfl, rfl, rfl, rfl, rfl, rfl, rfl, rfl, rfl, rfl, rfl, rfl, rfl, rfl, rfl, rfl, rfl, rfl, rfl, rfl, rfl, rfl, rfl, rfl, rfl, rfl, rfl, rfl, rfl, rfl, rfl, rfl, rfl, rfl, rfl, rfl, rfl, rfl, rfl, rfl, rfl, rfl, rfl, rfl, rfl, rfl, rfl, rfl, rfl, rfl, rfl, rfl, rfl, rfl, rfl, rfl⟩
theorem mk_L_law : MOK RL mt_L_law := by
  intro q hq
  simp only [mt_L_law, List.mem_cons, List.not_mem_nil, or_false] at hq
  rcases hq with rfl | rfl | rfl | rfl | rfl | rfl | rfl | rfl | rfl | rfl | rfl | rfl | rfl | rfl | rfl | rfl | rfl | rfl | rfl | rfl | rfl | rfl | rfl | rfl | rfl | rfl | rfl | rfl | rfl | rfl | rfl | rfl | rfl | rfl | rfl | rfl | rfl | rfl | rfl | rfl | rfl | rfl | rfl | rfl | rfl | rfl | rfl | rfl | rfl | rfl | rfl | rfl | rfl | rfl | rfl | rfl | rfl | rfl | rfl | rfl | rfl | rfl
  · exact rw_L_122
  · exact rw_L_146
  · exact rw_L_152
  · exact rw_L_184
  · exact rw_L_192
  · exact rw_L_224
  · exact rw_L_232
  · exact rw_L_264
  · exact rw_L_272
  · exact rw_L_304
  · exact rw_L_312
  · exact rw_L_336
  · exact rw_L_344
  · exact rw_L_376
  · exact rw_L_384
  · exact rw_L_416
  · exact rw_L_424
  · exact rw_L_448
  · exact rw_L_456
  · exact rw_L_480
  · exact rw_L_488
  · exact rw_L_512
  · exact rw_L_520
  · exact rw_L_544
  · exact rw_L_552
  · exact rw_L_584
  · exact rw_L_608
  · exact rw_L_640
  · exact rw_L_648
  · exact rw_L_672
  · exact rw_L_680
  · exact rw_L_704
  · exact rw_L_712
  · exact rw_L_736
  · exact rw_L_744
  · exact rw_L_768
  · exact rw_L_776
  · exact rw_L_808
  · exact rw_L_816
  · exact rw_L_840
  · exact rw_L_848
  · exact rw_L_872
  · exact rw_L_880
  · exact rw_L_904
  · exact rw_L_912
  · exact rw_L_936
  · exact rw_L_944
  · exact rw_L_968
  · exact rw_L_976
  · exact rw_L_1000
  · exact rw_L_1008
  · exact rw_L_1032
  · exact rw_L_1040
  · exact rw_L_1064
  · exact rw_L_1072
  · exact rw_L_1096
  · exact rw_L_1104
  · exact rw_L_1128
  · exact rw_L_1176
  · exact rw_L_1184
  · exact rw_L_1208
  · exact rw_L_1232
noncomputable def xe_L_law (ct : Nat → Bool) (K : Kt) (R : Option AV → Hp → Prop) (n : Nat) : Kt := exS 7 45 601024 7293034 2 tb_L_law mt_L_law ct K R n
noncomputable def xk_L_law (ct : Nat → Bool) (K : Kt) (R : Option AV → Hp → Prop) (n : Nat) : Kt := exkS 7 45 601024 7293034 2 tb_L_law mt_L_law ct K R n
theorem xt_L_law {ct : Nat → Bool} {K : Kt} {R : Option AV → Hp → Prop} {n pc : Nat} {ls : List (Option AV)} {st : List AV} {σ : Hp} {k : Nat × Nat} (h : ct pc = true) : xk_L_law ct K R n pc ls st σ k = K pc ls st σ k := by unfold xk_L_law exkS; rw [h]
theorem xf_L_law {ct : Nat → Bool} {K : Kt} {R : Option AV → Hp → Prop} {n pc : Nat} {ls : List (Option AV)} {st : List AV} {σ : Hp} {k : Nat × Nat} (h : ct pc = false) : xk_L_law ct K R n pc ls st σ k = xe_L_law ct K R n pc ls st σ k := by unfold xk_L_law exkS xe_L_law; rw [h]
set_option maxRecDepth 100000 in
theorem ev_L_law_0 {ct : Nat → Bool} {K : Kt} {R : Option AV → Hp → Prop} {n : Nat} {ls : List (Option AV)} {st : List AV} {σ : Hp} {k : Nat × Nat} : xe_L_law ct K R (n + 1) 0 ls st σ k = ((k.1 + 1 ≤ 601024 ∧ k.2 + 11 ≤ 7293034) ∧ xk_L_law ct K R n 3 ls (vr (nx σ) :: st) (mk σ 12 0) (k.1 + 1, k.2 + 11)) := exS_step.trans rfl
set_option maxRecDepth 100000 in
theorem ev_L_law_3 {ct : Nat → Bool} {K : Kt} {R : Option AV → Hp → Prop} {n : Nat} {ls : List (Option AV)} {st : List AV} {σ : Hp} {k : Nat × Nat} : xe_L_law ct K R (n + 1) 3 ls st σ k = (o1 st fun v st => xk_L_law ct K R n 4 ls (v :: v :: st) σ k) := exS_step.trans rfl
set_option maxRecDepth 100000 in
theorem ev_L_law_4 {ct : Nat → Bool} {K : Kt} {R : Option AV → Hp → Prop} {n : Nat} {ls : List (Option AV)} {st : List AV} {σ : Hp} {k : Nat × Nat} : xe_L_law ct K R (n + 1) 4 ls st σ k = (popN 1 st [] fun av rest => (catS rest ≤ 8 ∧ 6 < 45 ∧ k.1 + 60 ≤ 601024 ∧ k.2 + 6311 ≤ 7293034) ∧ (sp_X11_init) av σ fun v σ' => xk_L_law ct K R n 7 ls (v.toList ++ rest) σ' (k.1 + 60, k.2 + 6311)) := exS_step.trans rfl
set_option maxRecDepth 100000 in
theorem ev_L_law_7 {ct : Nat → Bool} {K : Kt} {R : Option AV → Hp → Prop} {n : Nat} {ls : List (Option AV)} {st : List AV} {σ : Hp} {k : Nat × Nat} : xe_L_law ct K R (n + 1) 7 ls st σ k = (oR st fun x st => 1 < 7 ∧ xk_L_law ct K R n 8 (stL ls 1 (vr x)) st σ k) := exS_step.trans rfl
set_option maxRecDepth 100000 in
theorem ev_L_law_8 {ct : Nat → Bool} {K : Kt} {R : Option AV → Hp → Prop} {n : Nat} {ls : List (Option AV)} {st : List AV} {σ : Hp} {k : Nat × Nat} : xe_L_law ct K R (n + 1) 8 ls st σ k = ((k.1 + 1 ≤ 601024 ∧ k.2 + 88 ≤ 7293034) ∧ xk_L_law ct K R n 11 ls (vr (nx σ) :: st) (mk σ 13 0) (k.1 + 1, k.2 + 88)) := exS_step.trans rfl
set_option maxRecDepth 100000 in
theorem ev_L_law_11 {ct : Nat → Bool} {K : Kt} {R : Option AV → Hp → Prop} {n : Nat} {ls : List (Option AV)} {st : List AV} {σ : Hp} {k : Nat × Nat} : xe_L_law ct K R (n + 1) 11 ls st σ k = (o1 st fun v st => xk_L_law ct K R n 12 ls (v :: v :: st) σ k) := exS_step.trans rfl
set_option maxRecDepth 100000 in
theorem ev_L_law_12 {ct : Nat → Bool} {K : Kt} {R : Option AV → Hp → Prop} {n : Nat} {ls : List (Option AV)} {st : List AV} {σ : Hp} {k : Nat × Nat} : xe_L_law ct K R (n + 1) 12 ls st σ k = (popN 1 st [] fun av rest => (catS rest ≤ 8 ∧ 1 < 45 ∧ k.1 + 58 ≤ 601024 ∧ k.2 + 32433 ≤ 7293034) ∧ (sp_X12_init) av σ fun v σ' => xk_L_law ct K R n 15 ls (v.toList ++ rest) σ' (k.1 + 58, k.2 + 32433)) := exS_step.trans rfl
set_option maxRecDepth 100000 in
theorem ev_L_law_15 {ct : Nat → Bool} {K : Kt} {R : Option AV → Hp → Prop} {n : Nat} {ls : List (Option AV)} {st : List AV} {σ : Hp} {k : Nat × Nat} : xe_L_law ct K R (n + 1) 15 ls st σ k = (oR st fun x st => 2 < 7 ∧ xk_L_law ct K R n 16 (stL ls 2 (vr x)) st σ k) := exS_step.trans rfl
set_option maxRecDepth 100000 in
theorem ev_L_law_16 {ct : Nat → Bool} {K : Kt} {R : Option AV → Hp → Prop} {n : Nat} {ls : List (Option AV)} {st : List AV} {σ : Hp} {k : Nat × Nat} : xe_L_law ct K R (n + 1) 16 ls st σ k = (xk_L_law ct K R n 17 ls (vi (1) :: st) σ k) := exS_step.trans rfl
set_option maxRecDepth 100000 in
theorem ev_L_law_17 {ct : Nat → Bool} {K : Kt} {R : Option AV → Hp → Prop} {n : Nat} {ls : List (Option AV)} {st : List AV} {σ : Hp} {k : Nat × Nat} : xe_L_law ct K R (n + 1) 17 ls st σ k = (oI st fun m st => (0 ≤ m ∧ m ≤ 65536) ∧ (k.1 + 1 ≤ 601024 ∧ k.2 + m.toNat ≤ 7293034) ∧ xk_L_law ct K R n 19 ls (vr (nx σ) :: st) (mk σ 102 m) (k.1 + 1, k.2 + m.toNat)) := exS_step.trans rfl
set_option maxRecDepth 100000 in
theorem ev_L_law_19 {ct : Nat → Bool} {K : Kt} {R : Option AV → Hp → Prop} {n : Nat} {ls : List (Option AV)} {st : List AV} {σ : Hp} {k : Nat × Nat} : xe_L_law ct K R (n + 1) 19 ls st σ k = (oR st fun x st => 3 < 7 ∧ xk_L_law ct K R n 20 (stL ls 3 (vr x)) st σ k) := exS_step.trans rfl
set_option maxRecDepth 100000 in
theorem ev_L_law_20 {ct : Nat → Bool} {K : Kt} {R : Option AV → Hp → Prop} {n : Nat} {ls : List (Option AV)} {st : List AV} {σ : Hp} {k : Nat × Nat} : xe_L_law ct K R (n + 1) 20 ls st σ k = (xk_L_law ct K R n 21 ls (vi (0) :: st) σ k) := exS_step.trans rfl
set_option maxRecDepth 100000 in
theorem ev_L_law_21 {ct : Nat → Bool} {K : Kt} {R : Option AV → Hp → Prop} {n : Nat} {ls : List (Option AV)} {st : List AV} {σ : Hp} {k : Nat × Nat} : xe_L_law ct K R (n + 1) 21 ls st σ k = (oI st fun x st => 4 < 7 ∧ xk_L_law ct K R n 23 (stL ls 4 (vi x)) st σ k) := exS_step.trans rfl
set_option maxRecDepth 100000 in
theorem ev_L_law_23 {ct : Nat → Bool} {K : Kt} {R : Option AV → Hp → Prop} {n : Nat} {ls : List (Option AV)} {st : List AV} {σ : Hp} {k : Nat × Nat} : xe_L_law ct K R (n + 1) 23 ls st σ k = (lI ls 4 fun x => xk_L_law ct K R n 25 ls (vi x :: st) σ k) := exS_step.trans rfl
set_option maxRecDepth 100000 in
theorem ev_L_law_25 {ct : Nat → Bool} {K : Kt} {R : Option AV → Hp → Prop} {n : Nat} {ls : List (Option AV)} {st : List AV} {σ : Hp} {k : Nat × Nat} : xe_L_law ct K R (n + 1) 25 ls st σ k = (lR ls 0 fun x => xk_L_law ct K R n 26 ls (vr x :: st) σ k) := exS_step.trans rfl
set_option maxRecDepth 100000 in
theorem ev_L_law_26 {ct : Nat → Bool} {K : Kt} {R : Option AV → Hp → Prop} {n : Nat} {ls : List (Option AV)} {st : List AV} {σ : Hp} {k : Nat × Nat} : xe_L_law ct K R (n + 1) 26 ls st σ k = (oR st fun x st => (101 ≤ kd σ x ∨ kd σ x = 21) ∧ xk_L_law ct K R n 27 ls (vi (ln σ x) :: st) σ k) := exS_step.trans rfl
set_option maxRecDepth 100000 in
theorem ev_L_law_27 {ct : Nat → Bool} {K : Kt} {R : Option AV → Hp → Prop} {n : Nat} {ls : List (Option AV)} {st : List AV} {σ : Hp} {k : Nat × Nat} : xe_L_law ct K R (n + 1) 27 ls st σ k = (xk_L_law ct K R n 29 ls (vi (7) :: st) σ k) := exS_step.trans rfl
set_option maxRecDepth 100000 in
theorem ev_L_law_29 {ct : Nat → Bool} {K : Kt} {R : Option AV → Hp → Prop} {n : Nat} {ls : List (Option AV)} {st : List AV} {σ : Hp} {k : Nat × Nat} : xe_L_law ct K R (n + 1) 29 ls st σ k = (oI st fun y st => oI st fun x st => xk_L_law ct K R n 30 ls (vi (x - y) :: st) σ k) := exS_step.trans rfl
set_option maxRecDepth 100000 in
theorem ev_L_law_30 {ct : Nat → Bool} {K : Kt} {R : Option AV → Hp → Prop} {n : Nat} {ls : List (Option AV)} {st : List AV} {σ : Hp} {k : Nat × Nat} : xe_L_law ct K R (n + 1) 30 ls st σ k = (oI st fun y st => oI st fun x st => (wI y < wI x → xk_L_law ct K R n 1339 ls st σ k) ∧ (¬ (wI y < wI x) → xk_L_law ct K R n 33 ls st σ k)) := exS_step.trans rfl
set_option maxRecDepth 100000 in
theorem ev_L_law_33 {ct : Nat → Bool} {K : Kt} {R : Option AV → Hp → Prop} {n : Nat} {ls : List (Option AV)} {st : List AV} {σ : Hp} {k : Nat × Nat} : xe_L_law ct K R (n + 1) 33 ls st σ k = (lR ls 0 fun x => xk_L_law ct K R n 34 ls (vr x :: st) σ k) := exS_step.trans rfl
set_option maxRecDepth 100000 in
theorem ev_L_law_34 {ct : Nat → Bool} {K : Kt} {R : Option AV → Hp → Prop} {n : Nat} {ls : List (Option AV)} {st : List AV} {σ : Hp} {k : Nat × Nat} : xe_L_law ct K R (n + 1) 34 ls st σ k = (lI ls 4 fun x => xk_L_law ct K R n 36 ls (vi x :: st) σ k) := exS_step.trans rfl
set_option maxRecDepth 100000 in
theorem ev_L_law_36 {ct : Nat → Bool} {K : Kt} {R : Option AV → Hp → Prop} {n : Nat} {ls : List (Option AV)} {st : List AV} {σ : Hp} {k : Nat × Nat} : xe_L_law ct K R (n + 1) 36 ls st σ k = (oI st fun j st => oR st fun x st => (kd σ x = 101 ∨ kd σ x = 108) ∧ (0 ≤ j ∧ j < ln σ x) ∧ xk_L_law ct K R n 37 ls (vi (aI σ x j) :: st) σ k) := exS_step.trans rfl
set_option maxRecDepth 100000 in
theorem ev_L_law_37 {ct : Nat → Bool} {K : Kt} {R : Option AV → Hp → Prop} {n : Nat} {ls : List (Option AV)} {st : List AV} {σ : Hp} {k : Nat × Nat} : xe_L_law ct K R (n + 1) 37 ls st σ k = (xk_L_law ct K R n 39 ls (vi (31) :: st) σ k) := exS_step.trans rfl
set_option maxRecDepth 100000 in
theorem ev_L_law_39 {ct : Nat → Bool} {K : Kt} {R : Option AV → Hp → Prop} {n : Nat} {ls : List (Option AV)} {st : List AV} {σ : Hp} {k : Nat × Nat} : xe_L_law ct K R (n + 1) 39 ls st σ k = (oI st fun y st => oI st fun x st => xk_L_law ct K R n 40 ls (vi (bAnd x y) :: st) σ k) := exS_step.trans rfl
set_option maxRecDepth 100000 in
theorem ev_L_law_40 {ct : Nat → Bool} {K : Kt} {R : Option AV → Hp → Prop} {n : Nat} {ls : List (Option AV)} {st : List AV} {σ : Hp} {k : Nat × Nat} : xe_L_law ct K R (n + 1) 40 ls st σ k = (oI st fun x st => (wI x < 0 ∨ 29 < wI x → xk_L_law ct K R n 1333 ls st σ k) ∧ (wI x = 0 → xk_L_law ct K R n 176 ls st σ k) ∧ (wI x = 1 → xk_L_law ct K R n 201 ls st σ k) ∧ (wI x = 2 → xk_L_law ct K R n 288 ls st σ k) ∧ (wI x = 3 → xk_L_law ct K R n 313 ls st σ k) ∧ (wI x = 4 → xk_L_law ct K R n 378 ls st σ k) ∧ (wI x = 5 → xk_L_law ct K R n 415 ls st σ k) ∧ (wI x = 6 → xk_L_law ct K R n 464 ls st σ k) ∧ (wI x = 7 → xk_L_law ct K R n 477 ls st σ k) ∧ (wI x = 8 → xk_L_law ct K R n 526 ls st σ k) ∧ (wI x = 9 → xk_L_law ct K R n 539 ls st σ k) ∧ (wI x = 10 → xk_L_law ct K R n 576 ls st σ k) ∧ (wI x = 11 → xk_L_law ct K R n 613 ls st σ k) ∧ (wI x = 12 → xk_L_law ct K R n 650 ls st σ k) ∧ (wI x = 13 → xk_L_law ct K R n 797 ls st σ k) ∧ (wI x = 14 → xk_L_law ct K R n 810 ls st σ k) ∧ (wI x = 15 → xk_L_law ct K R n 835 ls st σ k) ∧ (wI x = 16 → xk_L_law ct K R n 860 ls st σ k) ∧ (wI x = 17 → xk_L_law ct K R n 897 ls st σ k) ∧ (wI x = 18 → xk_L_law ct K R n 950 ls st σ k) ∧ (wI x = 19 → xk_L_law ct K R n 975 ls st σ k) ∧ (wI x = 20 → xk_L_law ct K R n 1000 ls st σ k) ∧ (wI x = 21 → xk_L_law ct K R n 1025 ls st σ k) ∧ (wI x = 22 → xk_L_law ct K R n 1038 ls st σ k) ∧ (wI x = 23 → xk_L_law ct K R n 1075 ls st σ k) ∧ (wI x = 24 → xk_L_law ct K R n 1088 ls st σ k) ∧ (wI x = 25 → xk_L_law ct K R n 1141 ls st σ k) ∧ (wI x = 26 → xk_L_law ct K R n 1178 ls st σ k) ∧ (wI x = 27 → xk_L_law ct K R n 1215 ls st σ k) ∧ (wI x = 28 → xk_L_law ct K R n 1240 ls st σ k) ∧ (wI x = 29 → xk_L_law ct K R n 1308 ls st σ k) ∧ True) := exS_step.trans rfl
set_option maxRecDepth 100000 in
theorem ev_L_law_176 {ct : Nat → Bool} {K : Kt} {R : Option AV → Hp → Prop} {n : Nat} {ls : List (Option AV)} {st : List AV} {σ : Hp} {k : Nat × Nat} : xe_L_law ct K R (n + 1) 176 ls st σ k = (lR ls 1 fun x => xk_L_law ct K R n 177 ls (vr x :: st) σ k) := exS_step.trans rfl
set_option maxRecDepth 100000 in
theorem ev_L_law_177 {ct : Nat → Bool} {K : Kt} {R : Option AV → Hp → Prop} {n : Nat} {ls : List (Option AV)} {st : List AV} {σ : Hp} {k : Nat × Nat} : xe_L_law ct K R (n + 1) 177 ls st σ k = (lR ls 0 fun x => xk_L_law ct K R n 178 ls (vr x :: st) σ k) := exS_step.trans rfl
set_option maxRecDepth 100000 in
theorem ev_L_law_178 {ct : Nat → Bool} {K : Kt} {R : Option AV → Hp → Prop} {n : Nat} {ls : List (Option AV)} {st : List AV} {σ : Hp} {k : Nat × Nat} : xe_L_law ct K R (n + 1) 178 ls st σ k = (lI ls 4 fun x => xk_L_law ct K R n 180 ls (vi x :: st) σ k) := exS_step.trans rfl
set_option maxRecDepth 100000 in
theorem ev_L_law_180 {ct : Nat → Bool} {K : Kt} {R : Option AV → Hp → Prop} {n : Nat} {ls : List (Option AV)} {st : List AV} {σ : Hp} {k : Nat × Nat} : xe_L_law ct K R (n + 1) 180 ls st σ k = (xk_L_law ct K R n 181 ls (vi (1) :: st) σ k) := exS_step.trans rfl
set_option maxRecDepth 100000 in
theorem ev_L_law_181 {ct : Nat → Bool} {K : Kt} {R : Option AV → Hp → Prop} {n : Nat} {ls : List (Option AV)} {st : List AV} {σ : Hp} {k : Nat × Nat} : xe_L_law ct K R (n + 1) 181 ls st σ k = (oI st fun y st => oI st fun x st => xk_L_law ct K R n 182 ls (vi (x + y) :: st) σ k) := exS_step.trans rfl
set_option maxRecDepth 100000 in
theorem ev_L_law_182 {ct : Nat → Bool} {K : Kt} {R : Option AV → Hp → Prop} {n : Nat} {ls : List (Option AV)} {st : List AV} {σ : Hp} {k : Nat × Nat} : xe_L_law ct K R (n + 1) 182 ls st σ k = (oI st fun j st => oR st fun x st => (kd σ x = 101 ∨ kd σ x = 108) ∧ (0 ≤ j ∧ j < ln σ x) ∧ xk_L_law ct K R n 183 ls (vi (aI σ x j) :: st) σ k) := exS_step.trans rfl
set_option maxRecDepth 100000 in
theorem ev_L_law_183 {ct : Nat → Bool} {K : Kt} {R : Option AV → Hp → Prop} {n : Nat} {ls : List (Option AV)} {st : List AV} {σ : Hp} {k : Nat × Nat} : xe_L_law ct K R (n + 1) 183 ls st σ k = (popN 2 st [] fun av rest => (catS rest ≤ 8 ∧ 6 < 45 ∧ k.1 + 0 ≤ 601024 ∧ k.2 + 0 ≤ 7293034) ∧ (sp_X11_ticks) av σ fun v σ' => xk_L_law ct K R n 186 ls (v.toList ++ rest) σ' (k.1 + 0, k.2 + 0)) := exS_step.trans rfl
set_option maxRecDepth 100000 in
theorem ev_L_law_186 {ct : Nat → Bool} {K : Kt} {R : Option AV → Hp → Prop} {n : Nat} {ls : List (Option AV)} {st : List AV} {σ : Hp} {k : Nat × Nat} : xe_L_law ct K R (n + 1) 186 ls st σ k = (lR ls 2 fun x => xk_L_law ct K R n 187 ls (vr x :: st) σ k) := exS_step.trans rfl
set_option maxRecDepth 100000 in
theorem ev_L_law_187 {ct : Nat → Bool} {K : Kt} {R : Option AV → Hp → Prop} {n : Nat} {ls : List (Option AV)} {st : List AV} {σ : Hp} {k : Nat × Nat} : xe_L_law ct K R (n + 1) 187 ls st σ k = (lR ls 0 fun x => xk_L_law ct K R n 188 ls (vr x :: st) σ k) := exS_step.trans rfl
set_option maxRecDepth 100000 in
theorem ev_L_law_188 {ct : Nat → Bool} {K : Kt} {R : Option AV → Hp → Prop} {n : Nat} {ls : List (Option AV)} {st : List AV} {σ : Hp} {k : Nat × Nat} : xe_L_law ct K R (n + 1) 188 ls st σ k = (lI ls 4 fun x => xk_L_law ct K R n 190 ls (vi x :: st) σ k) := exS_step.trans rfl
set_option maxRecDepth 100000 in
theorem ev_L_law_190 {ct : Nat → Bool} {K : Kt} {R : Option AV → Hp → Prop} {n : Nat} {ls : List (Option AV)} {st : List AV} {σ : Hp} {k : Nat × Nat} : xe_L_law ct K R (n + 1) 190 ls st σ k = (xk_L_law ct K R n 191 ls (vi (1) :: st) σ k) := exS_step.trans rfl
set_option maxRecDepth 100000 in
theorem ev_L_law_191 {ct : Nat → Bool} {K : Kt} {R : Option AV → Hp → Prop} {n : Nat} {ls : List (Option AV)} {st : List AV} {σ : Hp} {k : Nat × Nat} : xe_L_law ct K R (n + 1) 191 ls st σ k = (oI st fun y st => oI st fun x st => xk_L_law ct K R n 192 ls (vi (x + y) :: st) σ k) := exS_step.trans rfl
set_option maxRecDepth 100000 in
theorem ev_L_law_192 {ct : Nat → Bool} {K : Kt} {R : Option AV → Hp → Prop} {n : Nat} {ls : List (Option AV)} {st : List AV} {σ : Hp} {k : Nat × Nat} : xe_L_law ct K R (n + 1) 192 ls st σ k = (oI st fun j st => oR st fun x st => (kd σ x = 101 ∨ kd σ x = 108) ∧ (0 ≤ j ∧ j < ln σ x) ∧ xk_L_law ct K R n 193 ls (vi (aI σ x j) :: st) σ k) := exS_step.trans rfl
set_option maxRecDepth 100000 in
theorem ev_L_law_193 {ct : Nat → Bool} {K : Kt} {R : Option AV → Hp → Prop} {n : Nat} {ls : List (Option AV)} {st : List AV} {σ : Hp} {k : Nat × Nat} : xe_L_law ct K R (n + 1) 193 ls st σ k = (popN 2 st [] fun av rest => (catS rest ≤ 8 ∧ 5 < 45 ∧ k.1 + 0 ≤ 601024 ∧ k.2 + 0 ≤ 7293034) ∧ (sp_X12_ticks) av σ fun v σ' => xk_L_law ct K R n 196 ls (v.toList ++ rest) σ' (k.1 + 0, k.2 + 0)) := exS_step.trans rfl
set_option maxRecDepth 100000 in
theorem ev_L_law_196 {ct : Nat → Bool} {K : Kt} {R : Option AV → Hp → Prop} {n : Nat} {ls : List (Option AV)} {st : List AV} {σ : Hp} {k : Nat × Nat} : xe_L_law ct K R (n + 1) 196 ls st σ k = (oI st fun y st => oI st fun x st => (wI x = wI y → xk_L_law ct K R n 1333 ls st σ k) ∧ (¬ (wI x = wI y) → xk_L_law ct K R n 199 ls st σ k)) := exS_step.trans rfl
set_option maxRecDepth 100000 in
theorem ev_L_law_199 {ct : Nat → Bool} {K : Kt} {R : Option AV → Hp → Prop} {n : Nat} {ls : List (Option AV)} {st : List AV} {σ : Hp} {k : Nat × Nat} : xe_L_law ct K R (n + 1) 199 ls st σ k = (xk_L_law ct K R n 200 ls (vi (0) :: st) σ k) := exS_step.trans rfl
set_option maxRecDepth 100000 in
theorem ev_L_law_200 {ct : Nat → Bool} {K : Kt} {R : Option AV → Hp → Prop} {n : Nat} {ls : List (Option AV)} {st : List AV} {σ : Hp} {k : Nat × Nat} : xe_L_law ct K R (n + 1) 200 ls st σ k = (oI st fun x st => st = [] ∧ (x = 0 ∨ x = 1) ∧ R (some (vi x)) σ) := exS_step.trans rfl
set_option maxRecDepth 100000 in
theorem ev_L_law_201 {ct : Nat → Bool} {K : Kt} {R : Option AV → Hp → Prop} {n : Nat} {ls : List (Option AV)} {st : List AV} {σ : Hp} {k : Nat × Nat} : xe_L_law ct K R (n + 1) 201 ls st σ k = (lR ls 1 fun x => xk_L_law ct K R n 202 ls (vr x :: st) σ k) := exS_step.trans rfl
set_option maxRecDepth 100000 in
theorem ev_L_law_202 {ct : Nat → Bool} {K : Kt} {R : Option AV → Hp → Prop} {n : Nat} {ls : List (Option AV)} {st : List AV} {σ : Hp} {k : Nat × Nat} : xe_L_law ct K R (n + 1) 202 ls st σ k = (lR ls 0 fun x => xk_L_law ct K R n 203 ls (vr x :: st) σ k) := exS_step.trans rfl
set_option maxRecDepth 100000 in
theorem ev_L_law_203 {ct : Nat → Bool} {K : Kt} {R : Option AV → Hp → Prop} {n : Nat} {ls : List (Option AV)} {st : List AV} {σ : Hp} {k : Nat × Nat} : xe_L_law ct K R (n + 1) 203 ls st σ k = (lI ls 4 fun x => xk_L_law ct K R n 205 ls (vi x :: st) σ k) := exS_step.trans rfl
set_option maxRecDepth 100000 in
theorem ev_L_law_205 {ct : Nat → Bool} {K : Kt} {R : Option AV → Hp → Prop} {n : Nat} {ls : List (Option AV)} {st : List AV} {σ : Hp} {k : Nat × Nat} : xe_L_law ct K R (n + 1) 205 ls st σ k = (xk_L_law ct K R n 206 ls (vi (1) :: st) σ k) := exS_step.trans rfl
set_option maxRecDepth 100000 in
theorem ev_L_law_206 {ct : Nat → Bool} {K : Kt} {R : Option AV → Hp → Prop} {n : Nat} {ls : List (Option AV)} {st : List AV} {σ : Hp} {k : Nat × Nat} : xe_L_law ct K R (n + 1) 206 ls st σ k = (oI st fun y st => oI st fun x st => xk_L_law ct K R n 207 ls (vi (x + y) :: st) σ k) := exS_step.trans rfl
set_option maxRecDepth 100000 in
theorem ev_L_law_207 {ct : Nat → Bool} {K : Kt} {R : Option AV → Hp → Prop} {n : Nat} {ls : List (Option AV)} {st : List AV} {σ : Hp} {k : Nat × Nat} : xe_L_law ct K R (n + 1) 207 ls st σ k = (oI st fun j st => oR st fun x st => (kd σ x = 101 ∨ kd σ x = 108) ∧ (0 ≤ j ∧ j < ln σ x) ∧ xk_L_law ct K R n 208 ls (vi (aI σ x j) :: st) σ k) := exS_step.trans rfl
set_option maxRecDepth 100000 in
theorem ev_L_law_208 {ct : Nat → Bool} {K : Kt} {R : Option AV → Hp → Prop} {n : Nat} {ls : List (Option AV)} {st : List AV} {σ : Hp} {k : Nat × Nat} : xe_L_law ct K R (n + 1) 208 ls st σ k = (lR ls 0 fun x => xk_L_law ct K R n 209 ls (vr x :: st) σ k) := exS_step.trans rfl
set_option maxRecDepth 100000 in
theorem ev_L_law_209 {ct : Nat → Bool} {K : Kt} {R : Option AV → Hp → Prop} {n : Nat} {ls : List (Option AV)} {st : List AV} {σ : Hp} {k : Nat × Nat} : xe_L_law ct K R (n + 1) 209 ls st σ k = (lI ls 4 fun x => xk_L_law ct K R n 211 ls (vi x :: st) σ k) := exS_step.trans rfl
set_option maxRecDepth 100000 in
theorem ev_L_law_211 {ct : Nat → Bool} {K : Kt} {R : Option AV → Hp → Prop} {n : Nat} {ls : List (Option AV)} {st : List AV} {σ : Hp} {k : Nat × Nat} : xe_L_law ct K R (n + 1) 211 ls st σ k = (xk_L_law ct K R n 212 ls (vi (2) :: st) σ k) := exS_step.trans rfl
set_option maxRecDepth 100000 in
theorem ev_L_law_212 {ct : Nat → Bool} {K : Kt} {R : Option AV → Hp → Prop} {n : Nat} {ls : List (Option AV)} {st : List AV} {σ : Hp} {k : Nat × Nat} : xe_L_law ct K R (n + 1) 212 ls st σ k = (oI st fun y st => oI st fun x st => xk_L_law ct K R n 213 ls (vi (x + y) :: st) σ k) := exS_step.trans rfl
set_option maxRecDepth 100000 in
theorem ev_L_law_213 {ct : Nat → Bool} {K : Kt} {R : Option AV → Hp → Prop} {n : Nat} {ls : List (Option AV)} {st : List AV} {σ : Hp} {k : Nat × Nat} : xe_L_law ct K R (n + 1) 213 ls st σ k = (oI st fun j st => oR st fun x st => (kd σ x = 101 ∨ kd σ x = 108) ∧ (0 ≤ j ∧ j < ln σ x) ∧ xk_L_law ct K R n 214 ls (vi (aI σ x j) :: st) σ k) := exS_step.trans rfl
set_option maxRecDepth 100000 in
theorem ev_L_law_214 {ct : Nat → Bool} {K : Kt} {R : Option AV → Hp → Prop} {n : Nat} {ls : List (Option AV)} {st : List AV} {σ : Hp} {k : Nat × Nat} : xe_L_law ct K R (n + 1) 214 ls st σ k = (lR ls 0 fun x => xk_L_law ct K R n 215 ls (vr x :: st) σ k) := exS_step.trans rfl
set_option maxRecDepth 100000 in
theorem ev_L_law_215 {ct : Nat → Bool} {K : Kt} {R : Option AV → Hp → Prop} {n : Nat} {ls : List (Option AV)} {st : List AV} {σ : Hp} {k : Nat × Nat} : xe_L_law ct K R (n + 1) 215 ls st σ k = (lI ls 4 fun x => xk_L_law ct K R n 217 ls (vi x :: st) σ k) := exS_step.trans rfl
set_option maxRecDepth 100000 in
theorem ev_L_law_217 {ct : Nat → Bool} {K : Kt} {R : Option AV → Hp → Prop} {n : Nat} {ls : List (Option AV)} {st : List AV} {σ : Hp} {k : Nat × Nat} : xe_L_law ct K R (n + 1) 217 ls st σ k = (xk_L_law ct K R n 218 ls (vi (3) :: st) σ k) := exS_step.trans rfl
set_option maxRecDepth 100000 in
theorem ev_L_law_218 {ct : Nat → Bool} {K : Kt} {R : Option AV → Hp → Prop} {n : Nat} {ls : List (Option AV)} {st : List AV} {σ : Hp} {k : Nat × Nat} : xe_L_law ct K R (n + 1) 218 ls st σ k = (oI st fun y st => oI st fun x st => xk_L_law ct K R n 219 ls (vi (x + y) :: st) σ k) := exS_step.trans rfl
set_option maxRecDepth 100000 in
theorem ev_L_law_219 {ct : Nat → Bool} {K : Kt} {R : Option AV → Hp → Prop} {n : Nat} {ls : List (Option AV)} {st : List AV} {σ : Hp} {k : Nat × Nat} : xe_L_law ct K R (n + 1) 219 ls st σ k = (oI st fun j st => oR st fun x st => (kd σ x = 101 ∨ kd σ x = 108) ∧ (0 ≤ j ∧ j < ln σ x) ∧ xk_L_law ct K R n 220 ls (vi (aI σ x j) :: st) σ k) := exS_step.trans rfl
set_option maxRecDepth 100000 in
theorem ev_L_law_220 {ct : Nat → Bool} {K : Kt} {R : Option AV → Hp → Prop} {n : Nat} {ls : List (Option AV)} {st : List AV} {σ : Hp} {k : Nat × Nat} : xe_L_law ct K R (n + 1) 220 ls st σ k = (lR ls 0 fun x => xk_L_law ct K R n 221 ls (vr x :: st) σ k) := exS_step.trans rfl
set_option maxRecDepth 100000 in
theorem ev_L_law_221 {ct : Nat → Bool} {K : Kt} {R : Option AV → Hp → Prop} {n : Nat} {ls : List (Option AV)} {st : List AV} {σ : Hp} {k : Nat × Nat} : xe_L_law ct K R (n + 1) 221 ls st σ k = (lI ls 4 fun x => xk_L_law ct K R n 223 ls (vi x :: st) σ k) := exS_step.trans rfl
set_option maxRecDepth 100000 in
theorem ev_L_law_223 {ct : Nat → Bool} {K : Kt} {R : Option AV → Hp → Prop} {n : Nat} {ls : List (Option AV)} {st : List AV} {σ : Hp} {k : Nat × Nat} : xe_L_law ct K R (n + 1) 223 ls st σ k = (xk_L_law ct K R n 224 ls (vi (4) :: st) σ k) := exS_step.trans rfl
set_option maxRecDepth 100000 in
theorem ev_L_law_224 {ct : Nat → Bool} {K : Kt} {R : Option AV → Hp → Prop} {n : Nat} {ls : List (Option AV)} {st : List AV} {σ : Hp} {k : Nat × Nat} : xe_L_law ct K R (n + 1) 224 ls st σ k = (oI st fun y st => oI st fun x st => xk_L_law ct K R n 225 ls (vi (x + y) :: st) σ k) := exS_step.trans rfl
set_option maxRecDepth 100000 in
theorem ev_L_law_225 {ct : Nat → Bool} {K : Kt} {R : Option AV → Hp → Prop} {n : Nat} {ls : List (Option AV)} {st : List AV} {σ : Hp} {k : Nat × Nat} : xe_L_law ct K R (n + 1) 225 ls st σ k = (oI st fun j st => oR st fun x st => (kd σ x = 101 ∨ kd σ x = 108) ∧ (0 ≤ j ∧ j < ln σ x) ∧ xk_L_law ct K R n 226 ls (vi (aI σ x j) :: st) σ k) := exS_step.trans rfl
set_option maxRecDepth 100000 in
theorem ev_L_law_226 {ct : Nat → Bool} {K : Kt} {R : Option AV → Hp → Prop} {n : Nat} {ls : List (Option AV)} {st : List AV} {σ : Hp} {k : Nat × Nat} : xe_L_law ct K R (n + 1) 226 ls st σ k = (lR ls 0 fun x => xk_L_law ct K R n 227 ls (vr x :: st) σ k) := exS_step.trans rfl
set_option maxRecDepth 100000 in
theorem ev_L_law_227 {ct : Nat → Bool} {K : Kt} {R : Option AV → Hp → Prop} {n : Nat} {ls : List (Option AV)} {st : List AV} {σ : Hp} {k : Nat × Nat} : xe_L_law ct K R (n + 1) 227 ls st σ k = (lI ls 4 fun x => xk_L_law ct K R n 229 ls (vi x :: st) σ k) := exS_step.trans rfl
set_option maxRecDepth 100000 in
theorem ev_L_law_229 {ct : Nat → Bool} {K : Kt} {R : Option AV → Hp → Prop} {n : Nat} {ls : List (Option AV)} {st : List AV} {σ : Hp} {k : Nat × Nat} : xe_L_law ct K R (n + 1) 229 ls st σ k = (xk_L_law ct K R n 230 ls (vi (5) :: st) σ k) := exS_step.trans rfl
set_option maxRecDepth 100000 in
theorem ev_L_law_230 {ct : Nat → Bool} {K : Kt} {R : Option AV → Hp → Prop} {n : Nat} {ls : List (Option AV)} {st : List AV} {σ : Hp} {k : Nat × Nat} : xe_L_law ct K R (n + 1) 230 ls st σ k = (oI st fun y st => oI st fun x st => xk_L_law ct K R n 231 ls (vi (x + y) :: st) σ k) := exS_step.trans rfl
set_option maxRecDepth 100000 in
theorem ev_L_law_231 {ct : Nat → Bool} {K : Kt} {R : Option AV → Hp → Prop} {n : Nat} {ls : List (Option AV)} {st : List AV} {σ : Hp} {k : Nat × Nat} : xe_L_law ct K R (n + 1) 231 ls st σ k = (oI st fun j st => oR st fun x st => (kd σ x = 101 ∨ kd σ x = 108) ∧ (0 ≤ j ∧ j < ln σ x) ∧ xk_L_law ct K R n 232 ls (vi (aI σ x j) :: st) σ k) := exS_step.trans rfl
set_option maxRecDepth 100000 in
theorem ev_L_law_232 {ct : Nat → Bool} {K : Kt} {R : Option AV → Hp → Prop} {n : Nat} {ls : List (Option AV)} {st : List AV} {σ : Hp} {k : Nat × Nat} : xe_L_law ct K R (n + 1) 232 ls st σ k = (lR ls 0 fun x => xk_L_law ct K R n 233 ls (vr x :: st) σ k) := exS_step.trans rfl
set_option maxRecDepth 100000 in
theorem ev_L_law_233 {ct : Nat → Bool} {K : Kt} {R : Option AV → Hp → Prop} {n : Nat} {ls : List (Option AV)} {st : List AV} {σ : Hp} {k : Nat × Nat} : xe_L_law ct K R (n + 1) 233 ls st σ k = (lI ls 4 fun x => xk_L_law ct K R n 235 ls (vi x :: st) σ k) := exS_step.trans rfl
set_option maxRecDepth 100000 in
theorem ev_L_law_235 {ct : Nat → Bool} {K : Kt} {R : Option AV → Hp → Prop} {n : Nat} {ls : List (Option AV)} {st : List AV} {σ : Hp} {k : Nat × Nat} : xe_L_law ct K R (n + 1) 235 ls st σ k = (xk_L_law ct K R n 237 ls (vi (6) :: st) σ k) := exS_step.trans rfl
set_option maxRecDepth 100000 in
theorem ev_L_law_237 {ct : Nat → Bool} {K : Kt} {R : Option AV → Hp → Prop} {n : Nat} {ls : List (Option AV)} {st : List AV} {σ : Hp} {k : Nat × Nat} : xe_L_law ct K R (n + 1) 237 ls st σ k = (oI st fun y st => oI st fun x st => xk_L_law ct K R n 238 ls (vi (x + y) :: st) σ k) := exS_step.trans rfl
set_option maxRecDepth 100000 in
theorem ev_L_law_238 {ct : Nat → Bool} {K : Kt} {R : Option AV → Hp → Prop} {n : Nat} {ls : List (Option AV)} {st : List AV} {σ : Hp} {k : Nat × Nat} : xe_L_law ct K R (n + 1) 238 ls st σ k = (oI st fun j st => oR st fun x st => (kd σ x = 101 ∨ kd σ x = 108) ∧ (0 ≤ j ∧ j < ln σ x) ∧ xk_L_law ct K R n 239 ls (vi (aI σ x j) :: st) σ k) := exS_step.trans rfl
set_option maxRecDepth 100000 in
theorem ev_L_law_239 {ct : Nat → Bool} {K : Kt} {R : Option AV → Hp → Prop} {n : Nat} {ls : List (Option AV)} {st : List AV} {σ : Hp} {k : Nat × Nat} : xe_L_law ct K R (n + 1) 239 ls st σ k = (popN 7 st [] fun av rest => (catS rest ≤ 8 ∧ 8 < 45 ∧ k.1 + 3 ≤ 601024 ∧ k.2 + 314 ≤ 7293034) ∧ (sp_X11_box) av σ fun v σ' => xk_L_law ct K R n 242 ls (v.toList ++ rest) σ' (k.1 + 3, k.2 + 314)) := exS_step.trans rfl
set_option maxRecDepth 100000 in
theorem ev_L_law_242 {ct : Nat → Bool} {K : Kt} {R : Option AV → Hp → Prop} {n : Nat} {ls : List (Option AV)} {st : List AV} {σ : Hp} {k : Nat × Nat} : xe_L_law ct K R (n + 1) 242 ls st σ k = (lR ls 2 fun x => xk_L_law ct K R n 243 ls (vr x :: st) σ k) := exS_step.trans rfl
set_option maxRecDepth 100000 in
theorem ev_L_law_243 {ct : Nat → Bool} {K : Kt} {R : Option AV → Hp → Prop} {n : Nat} {ls : List (Option AV)} {st : List AV} {σ : Hp} {k : Nat × Nat} : xe_L_law ct K R (n + 1) 243 ls st σ k = (lR ls 0 fun x => xk_L_law ct K R n 244 ls (vr x :: st) σ k) := exS_step.trans rfl
set_option maxRecDepth 100000 in
theorem ev_L_law_244 {ct : Nat → Bool} {K : Kt} {R : Option AV → Hp → Prop} {n : Nat} {ls : List (Option AV)} {st : List AV} {σ : Hp} {k : Nat × Nat} : xe_L_law ct K R (n + 1) 244 ls st σ k = (lI ls 4 fun x => xk_L_law ct K R n 246 ls (vi x :: st) σ k) := exS_step.trans rfl
set_option maxRecDepth 100000 in
theorem ev_L_law_246 {ct : Nat → Bool} {K : Kt} {R : Option AV → Hp → Prop} {n : Nat} {ls : List (Option AV)} {st : List AV} {σ : Hp} {k : Nat × Nat} : xe_L_law ct K R (n + 1) 246 ls st σ k = (xk_L_law ct K R n 247 ls (vi (1) :: st) σ k) := exS_step.trans rfl
set_option maxRecDepth 100000 in
theorem ev_L_law_247 {ct : Nat → Bool} {K : Kt} {R : Option AV → Hp → Prop} {n : Nat} {ls : List (Option AV)} {st : List AV} {σ : Hp} {k : Nat × Nat} : xe_L_law ct K R (n + 1) 247 ls st σ k = (oI st fun y st => oI st fun x st => xk_L_law ct K R n 248 ls (vi (x + y) :: st) σ k) := exS_step.trans rfl
set_option maxRecDepth 100000 in
theorem ev_L_law_248 {ct : Nat → Bool} {K : Kt} {R : Option AV → Hp → Prop} {n : Nat} {ls : List (Option AV)} {st : List AV} {σ : Hp} {k : Nat × Nat} : xe_L_law ct K R (n + 1) 248 ls st σ k = (oI st fun j st => oR st fun x st => (kd σ x = 101 ∨ kd σ x = 108) ∧ (0 ≤ j ∧ j < ln σ x) ∧ xk_L_law ct K R n 249 ls (vi (aI σ x j) :: st) σ k) := exS_step.trans rfl
set_option maxRecDepth 100000 in
theorem ev_L_law_249 {ct : Nat → Bool} {K : Kt} {R : Option AV → Hp → Prop} {n : Nat} {ls : List (Option AV)} {st : List AV} {σ : Hp} {k : Nat × Nat} : xe_L_law ct K R (n + 1) 249 ls st σ k = (lR ls 0 fun x => xk_L_law ct K R n 250 ls (vr x :: st) σ k) := exS_step.trans rfl
set_option maxRecDepth 100000 in
theorem ev_L_law_250 {ct : Nat → Bool} {K : Kt} {R : Option AV → Hp → Prop} {n : Nat} {ls : List (Option AV)} {st : List AV} {σ : Hp} {k : Nat × Nat} : xe_L_law ct K R (n + 1) 250 ls st σ k = (lI ls 4 fun x => xk_L_law ct K R n 252 ls (vi x :: st) σ k) := exS_step.trans rfl
set_option maxRecDepth 100000 in
theorem ev_L_law_252 {ct : Nat → Bool} {K : Kt} {R : Option AV → Hp → Prop} {n : Nat} {ls : List (Option AV)} {st : List AV} {σ : Hp} {k : Nat × Nat} : xe_L_law ct K R (n + 1) 252 ls st σ k = (xk_L_law ct K R n 253 ls (vi (2) :: st) σ k) := exS_step.trans rfl
set_option maxRecDepth 100000 in
theorem ev_L_law_253 {ct : Nat → Bool} {K : Kt} {R : Option AV → Hp → Prop} {n : Nat} {ls : List (Option AV)} {st : List AV} {σ : Hp} {k : Nat × Nat} : xe_L_law ct K R (n + 1) 253 ls st σ k = (oI st fun y st => oI st fun x st => xk_L_law ct K R n 254 ls (vi (x + y) :: st) σ k) := exS_step.trans rfl
set_option maxRecDepth 100000 in
theorem ev_L_law_254 {ct : Nat → Bool} {K : Kt} {R : Option AV → Hp → Prop} {n : Nat} {ls : List (Option AV)} {st : List AV} {σ : Hp} {k : Nat × Nat} : xe_L_law ct K R (n + 1) 254 ls st σ k = (oI st fun j st => oR st fun x st => (kd σ x = 101 ∨ kd σ x = 108) ∧ (0 ≤ j ∧ j < ln σ x) ∧ xk_L_law ct K R n 255 ls (vi (aI σ x j) :: st) σ k) := exS_step.trans rfl
set_option maxRecDepth 100000 in
theorem ev_L_law_255 {ct : Nat → Bool} {K : Kt} {R : Option AV → Hp → Prop} {n : Nat} {ls : List (Option AV)} {st : List AV} {σ : Hp} {k : Nat × Nat} : xe_L_law ct K R (n + 1) 255 ls st σ k = (lR ls 0 fun x => xk_L_law ct K R n 256 ls (vr x :: st) σ k) := exS_step.trans rfl
set_option maxRecDepth 100000 in
theorem ev_L_law_256 {ct : Nat → Bool} {K : Kt} {R : Option AV → Hp → Prop} {n : Nat} {ls : List (Option AV)} {st : List AV} {σ : Hp} {k : Nat × Nat} : xe_L_law ct K R (n + 1) 256 ls st σ k = (lI ls 4 fun x => xk_L_law ct K R n 258 ls (vi x :: st) σ k) := exS_step.trans rfl
set_option maxRecDepth 100000 in
theorem ev_L_law_258 {ct : Nat → Bool} {K : Kt} {R : Option AV → Hp → Prop} {n : Nat} {ls : List (Option AV)} {st : List AV} {σ : Hp} {k : Nat × Nat} : xe_L_law ct K R (n + 1) 258 ls st σ k = (xk_L_law ct K R n 259 ls (vi (3) :: st) σ k) := exS_step.trans rfl
set_option maxRecDepth 100000 in
theorem ev_L_law_259 {ct : Nat → Bool} {K : Kt} {R : Option AV → Hp → Prop} {n : Nat} {ls : List (Option AV)} {st : List AV} {σ : Hp} {k : Nat × Nat} : xe_L_law ct K R (n + 1) 259 ls st σ k = (oI st fun y st => oI st fun x st => xk_L_law ct K R n 260 ls (vi (x + y) :: st) σ k) := exS_step.trans rfl
set_option maxRecDepth 100000 in
theorem ev_L_law_260 {ct : Nat → Bool} {K : Kt} {R : Option AV → Hp → Prop} {n : Nat} {ls : List (Option AV)} {st : List AV} {σ : Hp} {k : Nat × Nat} : xe_L_law ct K R (n + 1) 260 ls st σ k = (oI st fun j st => oR st fun x st => (kd σ x = 101 ∨ kd σ x = 108) ∧ (0 ≤ j ∧ j < ln σ x) ∧ xk_L_law ct K R n 261 ls (vi (aI σ x j) :: st) σ k) := exS_step.trans rfl
set_option maxRecDepth 100000 in
theorem ev_L_law_261 {ct : Nat → Bool} {K : Kt} {R : Option AV → Hp → Prop} {n : Nat} {ls : List (Option AV)} {st : List AV} {σ : Hp} {k : Nat × Nat} : xe_L_law ct K R (n + 1) 261 ls st σ k = (lR ls 0 fun x => xk_L_law ct K R n 262 ls (vr x :: st) σ k) := exS_step.trans rfl
set_option maxRecDepth 100000 in
theorem ev_L_law_262 {ct : Nat → Bool} {K : Kt} {R : Option AV → Hp → Prop} {n : Nat} {ls : List (Option AV)} {st : List AV} {σ : Hp} {k : Nat × Nat} : xe_L_law ct K R (n + 1) 262 ls st σ k = (lI ls 4 fun x => xk_L_law ct K R n 264 ls (vi x :: st) σ k) := exS_step.trans rfl
set_option maxRecDepth 100000 in
theorem ev_L_law_264 {ct : Nat → Bool} {K : Kt} {R : Option AV → Hp → Prop} {n : Nat} {ls : List (Option AV)} {st : List AV} {σ : Hp} {k : Nat × Nat} : xe_L_law ct K R (n + 1) 264 ls st σ k = (xk_L_law ct K R n 265 ls (vi (4) :: st) σ k) := exS_step.trans rfl
set_option maxRecDepth 100000 in
theorem ev_L_law_265 {ct : Nat → Bool} {K : Kt} {R : Option AV → Hp → Prop} {n : Nat} {ls : List (Option AV)} {st : List AV} {σ : Hp} {k : Nat × Nat} : xe_L_law ct K R (n + 1) 265 ls st σ k = (oI st fun y st => oI st fun x st => xk_L_law ct K R n 266 ls (vi (x + y) :: st) σ k) := exS_step.trans rfl
set_option maxRecDepth 100000 in
theorem ev_L_law_266 {ct : Nat → Bool} {K : Kt} {R : Option AV → Hp → Prop} {n : Nat} {ls : List (Option AV)} {st : List AV} {σ : Hp} {k : Nat × Nat} : xe_L_law ct K R (n + 1) 266 ls st σ k = (oI st fun j st => oR st fun x st => (kd σ x = 101 ∨ kd σ x = 108) ∧ (0 ≤ j ∧ j < ln σ x) ∧ xk_L_law ct K R n 267 ls (vi (aI σ x j) :: st) σ k) := exS_step.trans rfl
set_option maxRecDepth 100000 in
theorem ev_L_law_267 {ct : Nat → Bool} {K : Kt} {R : Option AV → Hp → Prop} {n : Nat} {ls : List (Option AV)} {st : List AV} {σ : Hp} {k : Nat × Nat} : xe_L_law ct K R (n + 1) 267 ls st σ k = (lR ls 0 fun x => xk_L_law ct K R n 268 ls (vr x :: st) σ k) := exS_step.trans rfl
set_option maxRecDepth 100000 in
theorem ev_L_law_268 {ct : Nat → Bool} {K : Kt} {R : Option AV → Hp → Prop} {n : Nat} {ls : List (Option AV)} {st : List AV} {σ : Hp} {k : Nat × Nat} : xe_L_law ct K R (n + 1) 268 ls st σ k = (lI ls 4 fun x => xk_L_law ct K R n 270 ls (vi x :: st) σ k) := exS_step.trans rfl
set_option maxRecDepth 100000 in
theorem ev_L_law_270 {ct : Nat → Bool} {K : Kt} {R : Option AV → Hp → Prop} {n : Nat} {ls : List (Option AV)} {st : List AV} {σ : Hp} {k : Nat × Nat} : xe_L_law ct K R (n + 1) 270 ls st σ k = (xk_L_law ct K R n 271 ls (vi (5) :: st) σ k) := exS_step.trans rfl
set_option maxRecDepth 100000 in
theorem ev_L_law_271 {ct : Nat → Bool} {K : Kt} {R : Option AV → Hp → Prop} {n : Nat} {ls : List (Option AV)} {st : List AV} {σ : Hp} {k : Nat × Nat} : xe_L_law ct K R (n + 1) 271 ls st σ k = (oI st fun y st => oI st fun x st => xk_L_law ct K R n 272 ls (vi (x + y) :: st) σ k) := exS_step.trans rfl
set_option maxRecDepth 100000 in
theorem ev_L_law_272 {ct : Nat → Bool} {K : Kt} {R : Option AV → Hp → Prop} {n : Nat} {ls : List (Option AV)} {st : List AV} {σ : Hp} {k : Nat × Nat} : xe_L_law ct K R (n + 1) 272 ls st σ k = (oI st fun j st => oR st fun x st => (kd σ x = 101 ∨ kd σ x = 108) ∧ (0 ≤ j ∧ j < ln σ x) ∧ xk_L_law ct K R n 273 ls (vi (aI σ x j) :: st) σ k) := exS_step.trans rfl
set_option maxRecDepth 100000 in
theorem ev_L_law_273 {ct : Nat → Bool} {K : Kt} {R : Option AV → Hp → Prop} {n : Nat} {ls : List (Option AV)} {st : List AV} {σ : Hp} {k : Nat × Nat} : xe_L_law ct K R (n + 1) 273 ls st σ k = (lR ls 0 fun x => xk_L_law ct K R n 274 ls (vr x :: st) σ k) := exS_step.trans rfl
set_option maxRecDepth 100000 in
theorem ev_L_law_274 {ct : Nat → Bool} {K : Kt} {R : Option AV → Hp → Prop} {n : Nat} {ls : List (Option AV)} {st : List AV} {σ : Hp} {k : Nat × Nat} : xe_L_law ct K R (n + 1) 274 ls st σ k = (lI ls 4 fun x => xk_L_law ct K R n 276 ls (vi x :: st) σ k) := exS_step.trans rfl
set_option maxRecDepth 100000 in
theorem ev_L_law_276 {ct : Nat → Bool} {K : Kt} {R : Option AV → Hp → Prop} {n : Nat} {ls : List (Option AV)} {st : List AV} {σ : Hp} {k : Nat × Nat} : xe_L_law ct K R (n + 1) 276 ls st σ k = (xk_L_law ct K R n 278 ls (vi (6) :: st) σ k) := exS_step.trans rfl
set_option maxRecDepth 100000 in
theorem ev_L_law_278 {ct : Nat → Bool} {K : Kt} {R : Option AV → Hp → Prop} {n : Nat} {ls : List (Option AV)} {st : List AV} {σ : Hp} {k : Nat × Nat} : xe_L_law ct K R (n + 1) 278 ls st σ k = (oI st fun y st => oI st fun x st => xk_L_law ct K R n 279 ls (vi (x + y) :: st) σ k) := exS_step.trans rfl
set_option maxRecDepth 100000 in
theorem ev_L_law_279 {ct : Nat → Bool} {K : Kt} {R : Option AV → Hp → Prop} {n : Nat} {ls : List (Option AV)} {st : List AV} {σ : Hp} {k : Nat × Nat} : xe_L_law ct K R (n + 1) 279 ls st σ k = (oI st fun j st => oR st fun x st => (kd σ x = 101 ∨ kd σ x = 108) ∧ (0 ≤ j ∧ j < ln σ x) ∧ xk_L_law ct K R n 280 ls (vi (aI σ x j) :: st) σ k) := exS_step.trans rfl
set_option maxRecDepth 100000 in
theorem ev_L_law_280 {ct : Nat → Bool} {K : Kt} {R : Option AV → Hp → Prop} {n : Nat} {ls : List (Option AV)} {st : List AV} {σ : Hp} {k : Nat × Nat} : xe_L_law ct K R (n + 1) 280 ls st σ k = (popN 7 st [] fun av rest => (catS rest ≤ 8 ∧ 3 < 45 ∧ k.1 + 0 ≤ 601024 ∧ k.2 + 0 ≤ 7293034) ∧ (sp_X12_box) av σ fun v σ' => xk_L_law ct K R n 283 ls (v.toList ++ rest) σ' (k.1 + 0, k.2 + 0)) := exS_step.trans rfl
set_option maxRecDepth 100000 in
theorem ev_L_law_283 {ct : Nat → Bool} {K : Kt} {R : Option AV → Hp → Prop} {n : Nat} {ls : List (Option AV)} {st : List AV} {σ : Hp} {k : Nat × Nat} : xe_L_law ct K R (n + 1) 283 ls st σ k = (oI st fun y st => oI st fun x st => (wI x = wI y → xk_L_law ct K R n 1333 ls st σ k) ∧ (¬ (wI x = wI y) → xk_L_law ct K R n 286 ls st σ k)) := exS_step.trans rfl
set_option maxRecDepth 100000 in
theorem ev_L_law_286 {ct : Nat → Bool} {K : Kt} {R : Option AV → Hp → Prop} {n : Nat} {ls : List (Option AV)} {st : List AV} {σ : Hp} {k : Nat × Nat} : xe_L_law ct K R (n + 1) 286 ls st σ k = (xk_L_law ct K R n 287 ls (vi (0) :: st) σ k) := exS_step.trans rfl
set_option maxRecDepth 100000 in
theorem ev_L_law_287 {ct : Nat → Bool} {K : Kt} {R : Option AV → Hp → Prop} {n : Nat} {ls : List (Option AV)} {st : List AV} {σ : Hp} {k : Nat × Nat} : xe_L_law ct K R (n + 1) 287 ls st σ k = (oI st fun x st => st = [] ∧ (x = 0 ∨ x = 1) ∧ R (some (vi x)) σ) := exS_step.trans rfl
set_option maxRecDepth 100000 in
theorem ev_L_law_288 {ct : Nat → Bool} {K : Kt} {R : Option AV → Hp → Prop} {n : Nat} {ls : List (Option AV)} {st : List AV} {σ : Hp} {k : Nat × Nat} : xe_L_law ct K R (n + 1) 288 ls st σ k = (lR ls 1 fun x => xk_L_law ct K R n 289 ls (vr x :: st) σ k) := exS_step.trans rfl
set_option maxRecDepth 100000 in
theorem ev_L_law_289 {ct : Nat → Bool} {K : Kt} {R : Option AV → Hp → Prop} {n : Nat} {ls : List (Option AV)} {st : List AV} {σ : Hp} {k : Nat × Nat} : xe_L_law ct K R (n + 1) 289 ls st σ k = (lR ls 0 fun x => xk_L_law ct K R n 290 ls (vr x :: st) σ k) := exS_step.trans rfl
set_option maxRecDepth 100000 in
theorem ev_L_law_290 {ct : Nat → Bool} {K : Kt} {R : Option AV → Hp → Prop} {n : Nat} {ls : List (Option AV)} {st : List AV} {σ : Hp} {k : Nat × Nat} : xe_L_law ct K R (n + 1) 290 ls st σ k = (lI ls 4 fun x => xk_L_law ct K R n 292 ls (vi x :: st) σ k) := exS_step.trans rfl
set_option maxRecDepth 100000 in
theorem ev_L_law_292 {ct : Nat → Bool} {K : Kt} {R : Option AV → Hp → Prop} {n : Nat} {ls : List (Option AV)} {st : List AV} {σ : Hp} {k : Nat × Nat} : xe_L_law ct K R (n + 1) 292 ls st σ k = (xk_L_law ct K R n 293 ls (vi (1) :: st) σ k) := exS_step.trans rfl
set_option maxRecDepth 100000 in
theorem ev_L_law_293 {ct : Nat → Bool} {K : Kt} {R : Option AV → Hp → Prop} {n : Nat} {ls : List (Option AV)} {st : List AV} {σ : Hp} {k : Nat × Nat} : xe_L_law ct K R (n + 1) 293 ls st σ k = (oI st fun y st => oI st fun x st => xk_L_law ct K R n 294 ls (vi (x + y) :: st) σ k) := exS_step.trans rfl
set_option maxRecDepth 100000 in
theorem ev_L_law_294 {ct : Nat → Bool} {K : Kt} {R : Option AV → Hp → Prop} {n : Nat} {ls : List (Option AV)} {st : List AV} {σ : Hp} {k : Nat × Nat} : xe_L_law ct K R (n + 1) 294 ls st σ k = (oI st fun j st => oR st fun x st => (kd σ x = 101 ∨ kd σ x = 108) ∧ (0 ≤ j ∧ j < ln σ x) ∧ xk_L_law ct K R n 295 ls (vi (aI σ x j) :: st) σ k) := exS_step.trans rfl
set_option maxRecDepth 100000 in
theorem ev_L_law_295 {ct : Nat → Bool} {K : Kt} {R : Option AV → Hp → Prop} {n : Nat} {ls : List (Option AV)} {st : List AV} {σ : Hp} {k : Nat × Nat} : xe_L_law ct K R (n + 1) 295 ls st σ k = (popN 2 st [] fun av rest => (catS rest ≤ 8 ∧ 5 < 45 ∧ k.1 + 0 ≤ 601024 ∧ k.2 + 0 ≤ 7293034) ∧ (sp_X11_pull) av σ fun v σ' => xk_L_law ct K R n 298 ls (v.toList ++ rest) σ' (k.1 + 0, k.2 + 0)) := exS_step.trans rfl
set_option maxRecDepth 100000 in
theorem ev_L_law_298 {ct : Nat → Bool} {K : Kt} {R : Option AV → Hp → Prop} {n : Nat} {ls : List (Option AV)} {st : List AV} {σ : Hp} {k : Nat × Nat} : xe_L_law ct K R (n + 1) 298 ls st σ k = (lR ls 2 fun x => xk_L_law ct K R n 299 ls (vr x :: st) σ k) := exS_step.trans rfl
set_option maxRecDepth 100000 in
theorem ev_L_law_299 {ct : Nat → Bool} {K : Kt} {R : Option AV → Hp → Prop} {n : Nat} {ls : List (Option AV)} {st : List AV} {σ : Hp} {k : Nat × Nat} : xe_L_law ct K R (n + 1) 299 ls st σ k = (lR ls 0 fun x => xk_L_law ct K R n 300 ls (vr x :: st) σ k) := exS_step.trans rfl
set_option maxRecDepth 100000 in
theorem ev_L_law_300 {ct : Nat → Bool} {K : Kt} {R : Option AV → Hp → Prop} {n : Nat} {ls : List (Option AV)} {st : List AV} {σ : Hp} {k : Nat × Nat} : xe_L_law ct K R (n + 1) 300 ls st σ k = (lI ls 4 fun x => xk_L_law ct K R n 302 ls (vi x :: st) σ k) := exS_step.trans rfl
set_option maxRecDepth 100000 in
theorem ev_L_law_302 {ct : Nat → Bool} {K : Kt} {R : Option AV → Hp → Prop} {n : Nat} {ls : List (Option AV)} {st : List AV} {σ : Hp} {k : Nat × Nat} : xe_L_law ct K R (n + 1) 302 ls st σ k = (xk_L_law ct K R n 303 ls (vi (1) :: st) σ k) := exS_step.trans rfl
set_option maxRecDepth 100000 in
theorem ev_L_law_303 {ct : Nat → Bool} {K : Kt} {R : Option AV → Hp → Prop} {n : Nat} {ls : List (Option AV)} {st : List AV} {σ : Hp} {k : Nat × Nat} : xe_L_law ct K R (n + 1) 303 ls st σ k = (oI st fun y st => oI st fun x st => xk_L_law ct K R n 304 ls (vi (x + y) :: st) σ k) := exS_step.trans rfl
set_option maxRecDepth 100000 in
theorem ev_L_law_304 {ct : Nat → Bool} {K : Kt} {R : Option AV → Hp → Prop} {n : Nat} {ls : List (Option AV)} {st : List AV} {σ : Hp} {k : Nat × Nat} : xe_L_law ct K R (n + 1) 304 ls st σ k = (oI st fun j st => oR st fun x st => (kd σ x = 101 ∨ kd σ x = 108) ∧ (0 ≤ j ∧ j < ln σ x) ∧ xk_L_law ct K R n 305 ls (vi (aI σ x j) :: st) σ k) := exS_step.trans rfl
set_option maxRecDepth 100000 in
theorem ev_L_law_305 {ct : Nat → Bool} {K : Kt} {R : Option AV → Hp → Prop} {n : Nat} {ls : List (Option AV)} {st : List AV} {σ : Hp} {k : Nat × Nat} : xe_L_law ct K R (n + 1) 305 ls st σ k = (popN 2 st [] fun av rest => (catS rest ≤ 8 ∧ 5 < 45 ∧ k.1 + 0 ≤ 601024 ∧ k.2 + 0 ≤ 7293034) ∧ (sp_X12_pull) av σ fun v σ' => xk_L_law ct K R n 308 ls (v.toList ++ rest) σ' (k.1 + 0, k.2 + 0)) := exS_step.trans rfl
set_option maxRecDepth 100000 in
theorem ev_L_law_308 {ct : Nat → Bool} {K : Kt} {R : Option AV → Hp → Prop} {n : Nat} {ls : List (Option AV)} {st : List AV} {σ : Hp} {k : Nat × Nat} : xe_L_law ct K R (n + 1) 308 ls st σ k = (oI st fun y st => oI st fun x st => (wI x = wI y → xk_L_law ct K R n 1333 ls st σ k) ∧ (¬ (wI x = wI y) → xk_L_law ct K R n 311 ls st σ k)) := exS_step.trans rfl
set_option maxRecDepth 100000 in
theorem ev_L_law_311 {ct : Nat → Bool} {K : Kt} {R : Option AV → Hp → Prop} {n : Nat} {ls : List (Option AV)} {st : List AV} {σ : Hp} {k : Nat × Nat} : xe_L_law ct K R (n + 1) 311 ls st σ k = (xk_L_law ct K R n 312 ls (vi (0) :: st) σ k) := exS_step.trans rfl
set_option maxRecDepth 100000 in
theorem ev_L_law_312 {ct : Nat → Bool} {K : Kt} {R : Option AV → Hp → Prop} {n : Nat} {ls : List (Option AV)} {st : List AV} {σ : Hp} {k : Nat × Nat} : xe_L_law ct K R (n + 1) 312 ls st σ k = (oI st fun x st => st = [] ∧ (x = 0 ∨ x = 1) ∧ R (some (vi x)) σ) := exS_step.trans rfl
set_option maxRecDepth 100000 in
theorem ev_L_law_313 {ct : Nat → Bool} {K : Kt} {R : Option AV → Hp → Prop} {n : Nat} {ls : List (Option AV)} {st : List AV} {σ : Hp} {k : Nat × Nat} : xe_L_law ct K R (n + 1) 313 ls st σ k = (lR ls 1 fun x => xk_L_law ct K R n 314 ls (vr x :: st) σ k) := exS_step.trans rfl
set_option maxRecDepth 100000 in
theorem ev_L_law_314 {ct : Nat → Bool} {K : Kt} {R : Option AV → Hp → Prop} {n : Nat} {ls : List (Option AV)} {st : List AV} {σ : Hp} {k : Nat × Nat} : xe_L_law ct K R (n + 1) 314 ls st σ k = (lR ls 0 fun x => xk_L_law ct K R n 315 ls (vr x :: st) σ k) := exS_step.trans rfl
set_option maxRecDepth 100000 in
theorem ev_L_law_315 {ct : Nat → Bool} {K : Kt} {R : Option AV → Hp → Prop} {n : Nat} {ls : List (Option AV)} {st : List AV} {σ : Hp} {k : Nat × Nat} : xe_L_law ct K R (n + 1) 315 ls st σ k = (lI ls 4 fun x => xk_L_law ct K R n 317 ls (vi x :: st) σ k) := exS_step.trans rfl
set_option maxRecDepth 100000 in
theorem ev_L_law_317 {ct : Nat → Bool} {K : Kt} {R : Option AV → Hp → Prop} {n : Nat} {ls : List (Option AV)} {st : List AV} {σ : Hp} {k : Nat × Nat} : xe_L_law ct K R (n + 1) 317 ls st σ k = (xk_L_law ct K R n 318 ls (vi (1) :: st) σ k) := exS_step.trans rfl
set_option maxRecDepth 100000 in
theorem ev_L_law_318 {ct : Nat → Bool} {K : Kt} {R : Option AV → Hp → Prop} {n : Nat} {ls : List (Option AV)} {st : List AV} {σ : Hp} {k : Nat × Nat} : xe_L_law ct K R (n + 1) 318 ls st σ k = (oI st fun y st => oI st fun x st => xk_L_law ct K R n 319 ls (vi (x + y) :: st) σ k) := exS_step.trans rfl
set_option maxRecDepth 100000 in
theorem ev_L_law_319 {ct : Nat → Bool} {K : Kt} {R : Option AV → Hp → Prop} {n : Nat} {ls : List (Option AV)} {st : List AV} {σ : Hp} {k : Nat × Nat} : xe_L_law ct K R (n + 1) 319 ls st σ k = (oI st fun j st => oR st fun x st => (kd σ x = 101 ∨ kd σ x = 108) ∧ (0 ≤ j ∧ j < ln σ x) ∧ xk_L_law ct K R n 320 ls (vi (aI σ x j) :: st) σ k) := exS_step.trans rfl
set_option maxRecDepth 100000 in
theorem ev_L_law_320 {ct : Nat → Bool} {K : Kt} {R : Option AV → Hp → Prop} {n : Nat} {ls : List (Option AV)} {st : List AV} {σ : Hp} {k : Nat × Nat} : xe_L_law ct K R (n + 1) 320 ls st σ k = (lR ls 0 fun x => xk_L_law ct K R n 321 ls (vr x :: st) σ k) := exS_step.trans rfl
set_option maxRecDepth 100000 in
theorem ev_L_law_321 {ct : Nat → Bool} {K : Kt} {R : Option AV → Hp → Prop} {n : Nat} {ls : List (Option AV)} {st : List AV} {σ : Hp} {k : Nat × Nat} : xe_L_law ct K R (n + 1) 321 ls st σ k = (lI ls 4 fun x => xk_L_law ct K R n 323 ls (vi x :: st) σ k) := exS_step.trans rfl
set_option maxRecDepth 100000 in
theorem ev_L_law_323 {ct : Nat → Bool} {K : Kt} {R : Option AV → Hp → Prop} {n : Nat} {ls : List (Option AV)} {st : List AV} {σ : Hp} {k : Nat × Nat} : xe_L_law ct K R (n + 1) 323 ls st σ k = (xk_L_law ct K R n 324 ls (vi (2) :: st) σ k) := exS_step.trans rfl
set_option maxRecDepth 100000 in
theorem ev_L_law_324 {ct : Nat → Bool} {K : Kt} {R : Option AV → Hp → Prop} {n : Nat} {ls : List (Option AV)} {st : List AV} {σ : Hp} {k : Nat × Nat} : xe_L_law ct K R (n + 1) 324 ls st σ k = (oI st fun y st => oI st fun x st => xk_L_law ct K R n 325 ls (vi (x + y) :: st) σ k) := exS_step.trans rfl
set_option maxRecDepth 100000 in
theorem ev_L_law_325 {ct : Nat → Bool} {K : Kt} {R : Option AV → Hp → Prop} {n : Nat} {ls : List (Option AV)} {st : List AV} {σ : Hp} {k : Nat × Nat} : xe_L_law ct K R (n + 1) 325 ls st σ k = (oI st fun j st => oR st fun x st => (kd σ x = 101 ∨ kd σ x = 108) ∧ (0 ≤ j ∧ j < ln σ x) ∧ xk_L_law ct K R n 326 ls (vi (aI σ x j) :: st) σ k) := exS_step.trans rfl
set_option maxRecDepth 100000 in
theorem ev_L_law_326 {ct : Nat → Bool} {K : Kt} {R : Option AV → Hp → Prop} {n : Nat} {ls : List (Option AV)} {st : List AV} {σ : Hp} {k : Nat × Nat} : xe_L_law ct K R (n + 1) 326 ls st σ k = (lR ls 0 fun x => xk_L_law ct K R n 327 ls (vr x :: st) σ k) := exS_step.trans rfl
set_option maxRecDepth 100000 in
theorem ev_L_law_327 {ct : Nat → Bool} {K : Kt} {R : Option AV → Hp → Prop} {n : Nat} {ls : List (Option AV)} {st : List AV} {σ : Hp} {k : Nat × Nat} : xe_L_law ct K R (n + 1) 327 ls st σ k = (lI ls 4 fun x => xk_L_law ct K R n 329 ls (vi x :: st) σ k) := exS_step.trans rfl
set_option maxRecDepth 100000 in
theorem ev_L_law_329 {ct : Nat → Bool} {K : Kt} {R : Option AV → Hp → Prop} {n : Nat} {ls : List (Option AV)} {st : List AV} {σ : Hp} {k : Nat × Nat} : xe_L_law ct K R (n + 1) 329 ls st σ k = (xk_L_law ct K R n 330 ls (vi (3) :: st) σ k) := exS_step.trans rfl
set_option maxRecDepth 100000 in
theorem ev_L_law_330 {ct : Nat → Bool} {K : Kt} {R : Option AV → Hp → Prop} {n : Nat} {ls : List (Option AV)} {st : List AV} {σ : Hp} {k : Nat × Nat} : xe_L_law ct K R (n + 1) 330 ls st σ k = (oI st fun y st => oI st fun x st => xk_L_law ct K R n 331 ls (vi (x + y) :: st) σ k) := exS_step.trans rfl
set_option maxRecDepth 100000 in
theorem ev_L_law_331 {ct : Nat → Bool} {K : Kt} {R : Option AV → Hp → Prop} {n : Nat} {ls : List (Option AV)} {st : List AV} {σ : Hp} {k : Nat × Nat} : xe_L_law ct K R (n + 1) 331 ls st σ k = (oI st fun j st => oR st fun x st => (kd σ x = 101 ∨ kd σ x = 108) ∧ (0 ≤ j ∧ j < ln σ x) ∧ xk_L_law ct K R n 332 ls (vi (aI σ x j) :: st) σ k) := exS_step.trans rfl
set_option maxRecDepth 100000 in
theorem ev_L_law_332 {ct : Nat → Bool} {K : Kt} {R : Option AV → Hp → Prop} {n : Nat} {ls : List (Option AV)} {st : List AV} {σ : Hp} {k : Nat × Nat} : xe_L_law ct K R (n + 1) 332 ls st σ k = (oI st fun x st => (wI x = wI 0 → xk_L_law ct K R n 339 ls st σ k) ∧ (¬ (wI x = wI 0) → xk_L_law ct K R n 335 ls st σ k)) := exS_step.trans rfl
set_option maxRecDepth 100000 in
theorem ev_L_law_335 {ct : Nat → Bool} {K : Kt} {R : Option AV → Hp → Prop} {n : Nat} {ls : List (Option AV)} {st : List AV} {σ : Hp} {k : Nat × Nat} : xe_L_law ct K R (n + 1) 335 ls st σ k = (xk_L_law ct K R n 336 ls (vi (1) :: st) σ k) := exS_step.trans rfl
set_option maxRecDepth 100000 in
theorem ev_L_law_336 {ct : Nat → Bool} {K : Kt} {R : Option AV → Hp → Prop} {n : Nat} {ls : List (Option AV)} {st : List AV} {σ : Hp} {k : Nat × Nat} : xe_L_law ct K R (n + 1) 336 ls st σ k = (xk_L_law ct K R n 340 ls st σ k) := exS_step.trans rfl
set_option maxRecDepth 100000 in
theorem ev_L_law_339 {ct : Nat → Bool} {K : Kt} {R : Option AV → Hp → Prop} {n : Nat} {ls : List (Option AV)} {st : List AV} {σ : Hp} {k : Nat × Nat} : xe_L_law ct K R (n + 1) 339 ls st σ k = (xk_L_law ct K R n 340 ls (vi (0) :: st) σ k) := exS_step.trans rfl
set_option maxRecDepth 100000 in
theorem ev_L_law_340 {ct : Nat → Bool} {K : Kt} {R : Option AV → Hp → Prop} {n : Nat} {ls : List (Option AV)} {st : List AV} {σ : Hp} {k : Nat × Nat} : xe_L_law ct K R (n + 1) 340 ls st σ k = (popN 4 st [] fun av rest => (catS rest ≤ 8 ∧ 3 < 45 ∧ k.1 + 0 ≤ 601024 ∧ k.2 + 0 ≤ 7293034) ∧ (sp_X11_cut) av σ fun v σ' => xk_L_law ct K R n 343 ls (v.toList ++ rest) σ' (k.1 + 0, k.2 + 0)) := exS_step.trans rfl
set_option maxRecDepth 100000 in
theorem ev_L_law_343 {ct : Nat → Bool} {K : Kt} {R : Option AV → Hp → Prop} {n : Nat} {ls : List (Option AV)} {st : List AV} {σ : Hp} {k : Nat × Nat} : xe_L_law ct K R (n + 1) 343 ls st σ k = (lR ls 2 fun x => xk_L_law ct K R n 344 ls (vr x :: st) σ k) := exS_step.trans rfl
set_option maxRecDepth 100000 in
theorem ev_L_law_344 {ct : Nat → Bool} {K : Kt} {R : Option AV → Hp → Prop} {n : Nat} {ls : List (Option AV)} {st : List AV} {σ : Hp} {k : Nat × Nat} : xe_L_law ct K R (n + 1) 344 ls st σ k = (lR ls 0 fun x => xk_L_law ct K R n 345 ls (vr x :: st) σ k) := exS_step.trans rfl
set_option maxRecDepth 100000 in
theorem ev_L_law_345 {ct : Nat → Bool} {K : Kt} {R : Option AV → Hp → Prop} {n : Nat} {ls : List (Option AV)} {st : List AV} {σ : Hp} {k : Nat × Nat} : xe_L_law ct K R (n + 1) 345 ls st σ k = (lI ls 4 fun x => xk_L_law ct K R n 347 ls (vi x :: st) σ k) := exS_step.trans rfl
set_option maxRecDepth 100000 in
theorem ev_L_law_347 {ct : Nat → Bool} {K : Kt} {R : Option AV → Hp → Prop} {n : Nat} {ls : List (Option AV)} {st : List AV} {σ : Hp} {k : Nat × Nat} : xe_L_law ct K R (n + 1) 347 ls st σ k = (xk_L_law ct K R n 348 ls (vi (1) :: st) σ k) := exS_step.trans rfl
set_option maxRecDepth 100000 in
theorem ev_L_law_348 {ct : Nat → Bool} {K : Kt} {R : Option AV → Hp → Prop} {n : Nat} {ls : List (Option AV)} {st : List AV} {σ : Hp} {k : Nat × Nat} : xe_L_law ct K R (n + 1) 348 ls st σ k = (oI st fun y st => oI st fun x st => xk_L_law ct K R n 349 ls (vi (x + y) :: st) σ k) := exS_step.trans rfl
set_option maxRecDepth 100000 in
theorem ev_L_law_349 {ct : Nat → Bool} {K : Kt} {R : Option AV → Hp → Prop} {n : Nat} {ls : List (Option AV)} {st : List AV} {σ : Hp} {k : Nat × Nat} : xe_L_law ct K R (n + 1) 349 ls st σ k = (oI st fun j st => oR st fun x st => (kd σ x = 101 ∨ kd σ x = 108) ∧ (0 ≤ j ∧ j < ln σ x) ∧ xk_L_law ct K R n 350 ls (vi (aI σ x j) :: st) σ k) := exS_step.trans rfl
set_option maxRecDepth 100000 in
theorem ev_L_law_350 {ct : Nat → Bool} {K : Kt} {R : Option AV → Hp → Prop} {n : Nat} {ls : List (Option AV)} {st : List AV} {σ : Hp} {k : Nat × Nat} : xe_L_law ct K R (n + 1) 350 ls st σ k = (lR ls 0 fun x => xk_L_law ct K R n 351 ls (vr x :: st) σ k) := exS_step.trans rfl
set_option maxRecDepth 100000 in
theorem ev_L_law_351 {ct : Nat → Bool} {K : Kt} {R : Option AV → Hp → Prop} {n : Nat} {ls : List (Option AV)} {st : List AV} {σ : Hp} {k : Nat × Nat} : xe_L_law ct K R (n + 1) 351 ls st σ k = (lI ls 4 fun x => xk_L_law ct K R n 353 ls (vi x :: st) σ k) := exS_step.trans rfl
set_option maxRecDepth 100000 in
theorem ev_L_law_353 {ct : Nat → Bool} {K : Kt} {R : Option AV → Hp → Prop} {n : Nat} {ls : List (Option AV)} {st : List AV} {σ : Hp} {k : Nat × Nat} : xe_L_law ct K R (n + 1) 353 ls st σ k = (xk_L_law ct K R n 354 ls (vi (2) :: st) σ k) := exS_step.trans rfl
set_option maxRecDepth 100000 in
theorem ev_L_law_354 {ct : Nat → Bool} {K : Kt} {R : Option AV → Hp → Prop} {n : Nat} {ls : List (Option AV)} {st : List AV} {σ : Hp} {k : Nat × Nat} : xe_L_law ct K R (n + 1) 354 ls st σ k = (oI st fun y st => oI st fun x st => xk_L_law ct K R n 355 ls (vi (x + y) :: st) σ k) := exS_step.trans rfl
set_option maxRecDepth 100000 in
theorem ev_L_law_355 {ct : Nat → Bool} {K : Kt} {R : Option AV → Hp → Prop} {n : Nat} {ls : List (Option AV)} {st : List AV} {σ : Hp} {k : Nat × Nat} : xe_L_law ct K R (n + 1) 355 ls st σ k = (oI st fun j st => oR st fun x st => (kd σ x = 101 ∨ kd σ x = 108) ∧ (0 ≤ j ∧ j < ln σ x) ∧ xk_L_law ct K R n 356 ls (vi (aI σ x j) :: st) σ k) := exS_step.trans rfl
set_option maxRecDepth 100000 in
theorem ev_L_law_356 {ct : Nat → Bool} {K : Kt} {R : Option AV → Hp → Prop} {n : Nat} {ls : List (Option AV)} {st : List AV} {σ : Hp} {k : Nat × Nat} : xe_L_law ct K R (n + 1) 356 ls st σ k = (lR ls 0 fun x => xk_L_law ct K R n 357 ls (vr x :: st) σ k) := exS_step.trans rfl
set_option maxRecDepth 100000 in
theorem ev_L_law_357 {ct : Nat → Bool} {K : Kt} {R : Option AV → Hp → Prop} {n : Nat} {ls : List (Option AV)} {st : List AV} {σ : Hp} {k : Nat × Nat} : xe_L_law ct K R (n + 1) 357 ls st σ k = (lI ls 4 fun x => xk_L_law ct K R n 359 ls (vi x :: st) σ k) := exS_step.trans rfl
set_option maxRecDepth 100000 in
theorem ev_L_law_359 {ct : Nat → Bool} {K : Kt} {R : Option AV → Hp → Prop} {n : Nat} {ls : List (Option AV)} {st : List AV} {σ : Hp} {k : Nat × Nat} : xe_L_law ct K R (n + 1) 359 ls st σ k = (xk_L_law ct K R n 360 ls (vi (3) :: st) σ k) := exS_step.trans rfl
set_option maxRecDepth 100000 in
theorem ev_L_law_360 {ct : Nat → Bool} {K : Kt} {R : Option AV → Hp → Prop} {n : Nat} {ls : List (Option AV)} {st : List AV} {σ : Hp} {k : Nat × Nat} : xe_L_law ct K R (n + 1) 360 ls st σ k = (oI st fun y st => oI st fun x st => xk_L_law ct K R n 361 ls (vi (x + y) :: st) σ k) := exS_step.trans rfl
set_option maxRecDepth 100000 in
theorem ev_L_law_361 {ct : Nat → Bool} {K : Kt} {R : Option AV → Hp → Prop} {n : Nat} {ls : List (Option AV)} {st : List AV} {σ : Hp} {k : Nat × Nat} : xe_L_law ct K R (n + 1) 361 ls st σ k = (oI st fun j st => oR st fun x st => (kd σ x = 101 ∨ kd σ x = 108) ∧ (0 ≤ j ∧ j < ln σ x) ∧ xk_L_law ct K R n 362 ls (vi (aI σ x j) :: st) σ k) := exS_step.trans rfl
set_option maxRecDepth 100000 in
theorem ev_L_law_362 {ct : Nat → Bool} {K : Kt} {R : Option AV → Hp → Prop} {n : Nat} {ls : List (Option AV)} {st : List AV} {σ : Hp} {k : Nat × Nat} : xe_L_law ct K R (n + 1) 362 ls st σ k = (oI st fun x st => (wI x = wI 0 → xk_L_law ct K R n 369 ls st σ k) ∧ (¬ (wI x = wI 0) → xk_L_law ct K R n 365 ls st σ k)) := exS_step.trans rfl
set_option maxRecDepth 100000 in
theorem ev_L_law_365 {ct : Nat → Bool} {K : Kt} {R : Option AV → Hp → Prop} {n : Nat} {ls : List (Option AV)} {st : List AV} {σ : Hp} {k : Nat × Nat} : xe_L_law ct K R (n + 1) 365 ls st σ k = (xk_L_law ct K R n 366 ls (vi (1) :: st) σ k) := exS_step.trans rfl
set_option maxRecDepth 100000 in
theorem ev_L_law_366 {ct : Nat → Bool} {K : Kt} {R : Option AV → Hp → Prop} {n : Nat} {ls : List (Option AV)} {st : List AV} {σ : Hp} {k : Nat × Nat} : xe_L_law ct K R (n + 1) 366 ls st σ k = (xk_L_law ct K R n 370 ls st σ k) := exS_step.trans rfl
set_option maxRecDepth 100000 in
theorem ev_L_law_369 {ct : Nat → Bool} {K : Kt} {R : Option AV → Hp → Prop} {n : Nat} {ls : List (Option AV)} {st : List AV} {σ : Hp} {k : Nat × Nat} : xe_L_law ct K R (n + 1) 369 ls st σ k = (xk_L_law ct K R n 370 ls (vi (0) :: st) σ k) := exS_step.trans rfl
set_option maxRecDepth 100000 in
theorem ev_L_law_370 {ct : Nat → Bool} {K : Kt} {R : Option AV → Hp → Prop} {n : Nat} {ls : List (Option AV)} {st : List AV} {σ : Hp} {k : Nat × Nat} : xe_L_law ct K R (n + 1) 370 ls st σ k = (popN 4 st [] fun av rest => (catS rest ≤ 8 ∧ 2 < 45 ∧ k.1 + 0 ≤ 601024 ∧ k.2 + 0 ≤ 7293034) ∧ (sp_X12_cut) av σ fun v σ' => xk_L_law ct K R n 373 ls (v.toList ++ rest) σ' (k.1 + 0, k.2 + 0)) := exS_step.trans rfl
set_option maxRecDepth 100000 in
theorem ev_L_law_373 {ct : Nat → Bool} {K : Kt} {R : Option AV → Hp → Prop} {n : Nat} {ls : List (Option AV)} {st : List AV} {σ : Hp} {k : Nat × Nat} : xe_L_law ct K R (n + 1) 373 ls st σ k = (oI st fun y st => oI st fun x st => (wI x = wI y → xk_L_law ct K R n 1333 ls st σ k) ∧ (¬ (wI x = wI y) → xk_L_law ct K R n 376 ls st σ k)) := exS_step.trans rfl
set_option maxRecDepth 100000 in
theorem ev_L_law_376 {ct : Nat → Bool} {K : Kt} {R : Option AV → Hp → Prop} {n : Nat} {ls : List (Option AV)} {st : List AV} {σ : Hp} {k : Nat × Nat} : xe_L_law ct K R (n + 1) 376 ls st σ k = (xk_L_law ct K R n 377 ls (vi (0) :: st) σ k) := exS_step.trans rfl
set_option maxRecDepth 100000 in
theorem ev_L_law_377 {ct : Nat → Bool} {K : Kt} {R : Option AV → Hp → Prop} {n : Nat} {ls : List (Option AV)} {st : List AV} {σ : Hp} {k : Nat × Nat} : xe_L_law ct K R (n + 1) 377 ls st σ k = (oI st fun x st => st = [] ∧ (x = 0 ∨ x = 1) ∧ R (some (vi x)) σ) := exS_step.trans rfl
set_option maxRecDepth 100000 in
theorem ev_L_law_378 {ct : Nat → Bool} {K : Kt} {R : Option AV → Hp → Prop} {n : Nat} {ls : List (Option AV)} {st : List AV} {σ : Hp} {k : Nat × Nat} : xe_L_law ct K R (n + 1) 378 ls st σ k = (lR ls 1 fun x => xk_L_law ct K R n 379 ls (vr x :: st) σ k) := exS_step.trans rfl
set_option maxRecDepth 100000 in
theorem ev_L_law_379 {ct : Nat → Bool} {K : Kt} {R : Option AV → Hp → Prop} {n : Nat} {ls : List (Option AV)} {st : List AV} {σ : Hp} {k : Nat × Nat} : xe_L_law ct K R (n + 1) 379 ls st σ k = (lR ls 0 fun x => xk_L_law ct K R n 380 ls (vr x :: st) σ k) := exS_step.trans rfl
set_option maxRecDepth 100000 in
theorem ev_L_law_380 {ct : Nat → Bool} {K : Kt} {R : Option AV → Hp → Prop} {n : Nat} {ls : List (Option AV)} {st : List AV} {σ : Hp} {k : Nat × Nat} : xe_L_law ct K R (n + 1) 380 ls st σ k = (lI ls 4 fun x => xk_L_law ct K R n 382 ls (vi x :: st) σ k) := exS_step.trans rfl
set_option maxRecDepth 100000 in
theorem ev_L_law_382 {ct : Nat → Bool} {K : Kt} {R : Option AV → Hp → Prop} {n : Nat} {ls : List (Option AV)} {st : List AV} {σ : Hp} {k : Nat × Nat} : xe_L_law ct K R (n + 1) 382 ls st σ k = (xk_L_law ct K R n 383 ls (vi (1) :: st) σ k) := exS_step.trans rfl
set_option maxRecDepth 100000 in
theorem ev_L_law_383 {ct : Nat → Bool} {K : Kt} {R : Option AV → Hp → Prop} {n : Nat} {ls : List (Option AV)} {st : List AV} {σ : Hp} {k : Nat × Nat} : xe_L_law ct K R (n + 1) 383 ls st σ k = (oI st fun y st => oI st fun x st => xk_L_law ct K R n 384 ls (vi (x + y) :: st) σ k) := exS_step.trans rfl
set_option maxRecDepth 100000 in
theorem ev_L_law_384 {ct : Nat → Bool} {K : Kt} {R : Option AV → Hp → Prop} {n : Nat} {ls : List (Option AV)} {st : List AV} {σ : Hp} {k : Nat × Nat} : xe_L_law ct K R (n + 1) 384 ls st σ k = (oI st fun j st => oR st fun x st => (kd σ x = 101 ∨ kd σ x = 108) ∧ (0 ≤ j ∧ j < ln σ x) ∧ xk_L_law ct K R n 385 ls (vi (aI σ x j) :: st) σ k) := exS_step.trans rfl
set_option maxRecDepth 100000 in
theorem ev_L_law_385 {ct : Nat → Bool} {K : Kt} {R : Option AV → Hp → Prop} {n : Nat} {ls : List (Option AV)} {st : List AV} {σ : Hp} {k : Nat × Nat} : xe_L_law ct K R (n + 1) 385 ls st σ k = (lR ls 0 fun x => xk_L_law ct K R n 386 ls (vr x :: st) σ k) := exS_step.trans rfl
set_option maxRecDepth 100000 in
theorem ev_L_law_386 {ct : Nat → Bool} {K : Kt} {R : Option AV → Hp → Prop} {n : Nat} {ls : List (Option AV)} {st : List AV} {σ : Hp} {k : Nat × Nat} : xe_L_law ct K R (n + 1) 386 ls st σ k = (lI ls 4 fun x => xk_L_law ct K R n 388 ls (vi x :: st) σ k) := exS_step.trans rfl
set_option maxRecDepth 100000 in
theorem ev_L_law_388 {ct : Nat → Bool} {K : Kt} {R : Option AV → Hp → Prop} {n : Nat} {ls : List (Option AV)} {st : List AV} {σ : Hp} {k : Nat × Nat} : xe_L_law ct K R (n + 1) 388 ls st σ k = (xk_L_law ct K R n 389 ls (vi (2) :: st) σ k) := exS_step.trans rfl
set_option maxRecDepth 100000 in
theorem ev_L_law_389 {ct : Nat → Bool} {K : Kt} {R : Option AV → Hp → Prop} {n : Nat} {ls : List (Option AV)} {st : List AV} {σ : Hp} {k : Nat × Nat} : xe_L_law ct K R (n + 1) 389 ls st σ k = (oI st fun y st => oI st fun x st => xk_L_law ct K R n 390 ls (vi (x + y) :: st) σ k) := exS_step.trans rfl
set_option maxRecDepth 100000 in
theorem ev_L_law_390 {ct : Nat → Bool} {K : Kt} {R : Option AV → Hp → Prop} {n : Nat} {ls : List (Option AV)} {st : List AV} {σ : Hp} {k : Nat × Nat} : xe_L_law ct K R (n + 1) 390 ls st σ k = (oI st fun j st => oR st fun x st => (kd σ x = 101 ∨ kd σ x = 108) ∧ (0 ≤ j ∧ j < ln σ x) ∧ xk_L_law ct K R n 391 ls (vi (aI σ x j) :: st) σ k) := exS_step.trans rfl
set_option maxRecDepth 100000 in
theorem ev_L_law_391 {ct : Nat → Bool} {K : Kt} {R : Option AV → Hp → Prop} {n : Nat} {ls : List (Option AV)} {st : List AV} {σ : Hp} {k : Nat × Nat} : xe_L_law ct K R (n + 1) 391 ls st σ k = (popN 3 st [] fun av rest => (catS rest ≤ 8 ∧ 2 < 45 ∧ k.1 + 0 ≤ 601024 ∧ k.2 + 0 ≤ 7293034) ∧ (sp_X11_knocked) av σ fun v σ' => xk_L_law ct K R n 394 ls (v.toList ++ rest) σ' (k.1 + 0, k.2 + 0)) := exS_step.trans rfl
set_option maxRecDepth 100000 in
theorem ev_L_law_394 {ct : Nat → Bool} {K : Kt} {R : Option AV → Hp → Prop} {n : Nat} {ls : List (Option AV)} {st : List AV} {σ : Hp} {k : Nat × Nat} : xe_L_law ct K R (n + 1) 394 ls st σ k = (lR ls 2 fun x => xk_L_law ct K R n 395 ls (vr x :: st) σ k) := exS_step.trans rfl
set_option maxRecDepth 100000 in
theorem ev_L_law_395 {ct : Nat → Bool} {K : Kt} {R : Option AV → Hp → Prop} {n : Nat} {ls : List (Option AV)} {st : List AV} {σ : Hp} {k : Nat × Nat} : xe_L_law ct K R (n + 1) 395 ls st σ k = (lR ls 0 fun x => xk_L_law ct K R n 396 ls (vr x :: st) σ k) := exS_step.trans rfl
set_option maxRecDepth 100000 in
theorem ev_L_law_396 {ct : Nat → Bool} {K : Kt} {R : Option AV → Hp → Prop} {n : Nat} {ls : List (Option AV)} {st : List AV} {σ : Hp} {k : Nat × Nat} : xe_L_law ct K R (n + 1) 396 ls st σ k = (lI ls 4 fun x => xk_L_law ct K R n 398 ls (vi x :: st) σ k) := exS_step.trans rfl
set_option maxRecDepth 100000 in
theorem ev_L_law_398 {ct : Nat → Bool} {K : Kt} {R : Option AV → Hp → Prop} {n : Nat} {ls : List (Option AV)} {st : List AV} {σ : Hp} {k : Nat × Nat} : xe_L_law ct K R (n + 1) 398 ls st σ k = (xk_L_law ct K R n 399 ls (vi (1) :: st) σ k) := exS_step.trans rfl
set_option maxRecDepth 100000 in
theorem ev_L_law_399 {ct : Nat → Bool} {K : Kt} {R : Option AV → Hp → Prop} {n : Nat} {ls : List (Option AV)} {st : List AV} {σ : Hp} {k : Nat × Nat} : xe_L_law ct K R (n + 1) 399 ls st σ k = (oI st fun y st => oI st fun x st => xk_L_law ct K R n 400 ls (vi (x + y) :: st) σ k) := exS_step.trans rfl
set_option maxRecDepth 100000 in
theorem ev_L_law_400 {ct : Nat → Bool} {K : Kt} {R : Option AV → Hp → Prop} {n : Nat} {ls : List (Option AV)} {st : List AV} {σ : Hp} {k : Nat × Nat} : xe_L_law ct K R (n + 1) 400 ls st σ k = (oI st fun j st => oR st fun x st => (kd σ x = 101 ∨ kd σ x = 108) ∧ (0 ≤ j ∧ j < ln σ x) ∧ xk_L_law ct K R n 401 ls (vi (aI σ x j) :: st) σ k) := exS_step.trans rfl
set_option maxRecDepth 100000 in
theorem ev_L_law_401 {ct : Nat → Bool} {K : Kt} {R : Option AV → Hp → Prop} {n : Nat} {ls : List (Option AV)} {st : List AV} {σ : Hp} {k : Nat × Nat} : xe_L_law ct K R (n + 1) 401 ls st σ k = (lR ls 0 fun x => xk_L_law ct K R n 402 ls (vr x :: st) σ k) := exS_step.trans rfl
set_option maxRecDepth 100000 in
theorem ev_L_law_402 {ct : Nat → Bool} {K : Kt} {R : Option AV → Hp → Prop} {n : Nat} {ls : List (Option AV)} {st : List AV} {σ : Hp} {k : Nat × Nat} : xe_L_law ct K R (n + 1) 402 ls st σ k = (lI ls 4 fun x => xk_L_law ct K R n 404 ls (vi x :: st) σ k) := exS_step.trans rfl
set_option maxRecDepth 100000 in
theorem ev_L_law_404 {ct : Nat → Bool} {K : Kt} {R : Option AV → Hp → Prop} {n : Nat} {ls : List (Option AV)} {st : List AV} {σ : Hp} {k : Nat × Nat} : xe_L_law ct K R (n + 1) 404 ls st σ k = (xk_L_law ct K R n 405 ls (vi (2) :: st) σ k) := exS_step.trans rfl
set_option maxRecDepth 100000 in
theorem ev_L_law_405 {ct : Nat → Bool} {K : Kt} {R : Option AV → Hp → Prop} {n : Nat} {ls : List (Option AV)} {st : List AV} {σ : Hp} {k : Nat × Nat} : xe_L_law ct K R (n + 1) 405 ls st σ k = (oI st fun y st => oI st fun x st => xk_L_law ct K R n 406 ls (vi (x + y) :: st) σ k) := exS_step.trans rfl
set_option maxRecDepth 100000 in
theorem ev_L_law_406 {ct : Nat → Bool} {K : Kt} {R : Option AV → Hp → Prop} {n : Nat} {ls : List (Option AV)} {st : List AV} {σ : Hp} {k : Nat × Nat} : xe_L_law ct K R (n + 1) 406 ls st σ k = (oI st fun j st => oR st fun x st => (kd σ x = 101 ∨ kd σ x = 108) ∧ (0 ≤ j ∧ j < ln σ x) ∧ xk_L_law ct K R n 407 ls (vi (aI σ x j) :: st) σ k) := exS_step.trans rfl
set_option maxRecDepth 100000 in
theorem ev_L_law_407 {ct : Nat → Bool} {K : Kt} {R : Option AV → Hp → Prop} {n : Nat} {ls : List (Option AV)} {st : List AV} {σ : Hp} {k : Nat × Nat} : xe_L_law ct K R (n + 1) 407 ls st σ k = (popN 3 st [] fun av rest => (catS rest ≤ 8 ∧ 2 < 45 ∧ k.1 + 0 ≤ 601024 ∧ k.2 + 0 ≤ 7293034) ∧ (sp_X12_knocked) av σ fun v σ' => xk_L_law ct K R n 410 ls (v.toList ++ rest) σ' (k.1 + 0, k.2 + 0)) := exS_step.trans rfl
set_option maxRecDepth 100000 in
theorem ev_L_law_410 {ct : Nat → Bool} {K : Kt} {R : Option AV → Hp → Prop} {n : Nat} {ls : List (Option AV)} {st : List AV} {σ : Hp} {k : Nat × Nat} : xe_L_law ct K R (n + 1) 410 ls st σ k = (oI st fun y st => oI st fun x st => (wI x = wI y → xk_L_law ct K R n 1333 ls st σ k) ∧ (¬ (wI x = wI y) → xk_L_law ct K R n 413 ls st σ k)) := exS_step.trans rfl
set_option maxRecDepth 100000 in
theorem ev_L_law_413 {ct : Nat → Bool} {K : Kt} {R : Option AV → Hp → Prop} {n : Nat} {ls : List (Option AV)} {st : List AV} {σ : Hp} {k : Nat × Nat} : xe_L_law ct K R (n + 1) 413 ls st σ k = (xk_L_law ct K R n 414 ls (vi (0) :: st) σ k) := exS_step.trans rfl
set_option maxRecDepth 100000 in
theorem ev_L_law_414 {ct : Nat → Bool} {K : Kt} {R : Option AV → Hp → Prop} {n : Nat} {ls : List (Option AV)} {st : List AV} {σ : Hp} {k : Nat × Nat} : xe_L_law ct K R (n + 1) 414 ls st σ k = (oI st fun x st => st = [] ∧ (x = 0 ∨ x = 1) ∧ R (some (vi x)) σ) := exS_step.trans rfl
set_option maxRecDepth 100000 in
theorem ev_L_law_415 {ct : Nat → Bool} {K : Kt} {R : Option AV → Hp → Prop} {n : Nat} {ls : List (Option AV)} {st : List AV} {σ : Hp} {k : Nat × Nat} : xe_L_law ct K R (n + 1) 415 ls st σ k = (lR ls 1 fun x => xk_L_law ct K R n 416 ls (vr x :: st) σ k) := exS_step.trans rfl
set_option maxRecDepth 100000 in
theorem ev_L_law_416 {ct : Nat → Bool} {K : Kt} {R : Option AV → Hp → Prop} {n : Nat} {ls : List (Option AV)} {st : List AV} {σ : Hp} {k : Nat × Nat} : xe_L_law ct K R (n + 1) 416 ls st σ k = (lR ls 0 fun x => xk_L_law ct K R n 417 ls (vr x :: st) σ k) := exS_step.trans rfl
set_option maxRecDepth 100000 in
theorem ev_L_law_417 {ct : Nat → Bool} {K : Kt} {R : Option AV → Hp → Prop} {n : Nat} {ls : List (Option AV)} {st : List AV} {σ : Hp} {k : Nat × Nat} : xe_L_law ct K R (n + 1) 417 ls st σ k = (lI ls 4 fun x => xk_L_law ct K R n 419 ls (vi x :: st) σ k) := exS_step.trans rfl
set_option maxRecDepth 100000 in
theorem ev_L_law_419 {ct : Nat → Bool} {K : Kt} {R : Option AV → Hp → Prop} {n : Nat} {ls : List (Option AV)} {st : List AV} {σ : Hp} {k : Nat × Nat} : xe_L_law ct K R (n + 1) 419 ls st σ k = (xk_L_law ct K R n 420 ls (vi (1) :: st) σ k) := exS_step.trans rfl
set_option maxRecDepth 100000 in
theorem ev_L_law_420 {ct : Nat → Bool} {K : Kt} {R : Option AV → Hp → Prop} {n : Nat} {ls : List (Option AV)} {st : List AV} {σ : Hp} {k : Nat × Nat} : xe_L_law ct K R (n + 1) 420 ls st σ k = (oI st fun y st => oI st fun x st => xk_L_law ct K R n 421 ls (vi (x + y) :: st) σ k) := exS_step.trans rfl
set_option maxRecDepth 100000 in
theorem ev_L_law_421 {ct : Nat → Bool} {K : Kt} {R : Option AV → Hp → Prop} {n : Nat} {ls : List (Option AV)} {st : List AV} {σ : Hp} {k : Nat × Nat} : xe_L_law ct K R (n + 1) 421 ls st σ k = (oI st fun j st => oR st fun x st => (kd σ x = 101 ∨ kd σ x = 108) ∧ (0 ≤ j ∧ j < ln σ x) ∧ xk_L_law ct K R n 422 ls (vi (aI σ x j) :: st) σ k) := exS_step.trans rfl
set_option maxRecDepth 100000 in
theorem ev_L_law_422 {ct : Nat → Bool} {K : Kt} {R : Option AV → Hp → Prop} {n : Nat} {ls : List (Option AV)} {st : List AV} {σ : Hp} {k : Nat × Nat} : xe_L_law ct K R (n + 1) 422 ls st σ k = (lR ls 0 fun x => xk_L_law ct K R n 423 ls (vr x :: st) σ k) := exS_step.trans rfl
set_option maxRecDepth 100000 in
theorem ev_L_law_423 {ct : Nat → Bool} {K : Kt} {R : Option AV → Hp → Prop} {n : Nat} {ls : List (Option AV)} {st : List AV} {σ : Hp} {k : Nat × Nat} : xe_L_law ct K R (n + 1) 423 ls st σ k = (lI ls 4 fun x => xk_L_law ct K R n 425 ls (vi x :: st) σ k) := exS_step.trans rfl
set_option maxRecDepth 100000 in
theorem ev_L_law_425 {ct : Nat → Bool} {K : Kt} {R : Option AV → Hp → Prop} {n : Nat} {ls : List (Option AV)} {st : List AV} {σ : Hp} {k : Nat × Nat} : xe_L_law ct K R (n + 1) 425 ls st σ k = (xk_L_law ct K R n 426 ls (vi (2) :: st) σ k) := exS_step.trans rfl
set_option maxRecDepth 100000 in
theorem ev_L_law_426 {ct : Nat → Bool} {K : Kt} {R : Option AV → Hp → Prop} {n : Nat} {ls : List (Option AV)} {st : List AV} {σ : Hp} {k : Nat × Nat} : xe_L_law ct K R (n + 1) 426 ls st σ k = (oI st fun y st => oI st fun x st => xk_L_law ct K R n 427 ls (vi (x + y) :: st) σ k) := exS_step.trans rfl
set_option maxRecDepth 100000 in
theorem ev_L_law_427 {ct : Nat → Bool} {K : Kt} {R : Option AV → Hp → Prop} {n : Nat} {ls : List (Option AV)} {st : List AV} {σ : Hp} {k : Nat × Nat} : xe_L_law ct K R (n + 1) 427 ls st σ k = (oI st fun j st => oR st fun x st => (kd σ x = 101 ∨ kd σ x = 108) ∧ (0 ≤ j ∧ j < ln σ x) ∧ xk_L_law ct K R n 428 ls (vi (aI σ x j) :: st) σ k) := exS_step.trans rfl
set_option maxRecDepth 100000 in
theorem ev_L_law_428 {ct : Nat → Bool} {K : Kt} {R : Option AV → Hp → Prop} {n : Nat} {ls : List (Option AV)} {st : List AV} {σ : Hp} {k : Nat × Nat} : xe_L_law ct K R (n + 1) 428 ls st σ k = (lR ls 0 fun x => xk_L_law ct K R n 429 ls (vr x :: st) σ k) := exS_step.trans rfl
set_option maxRecDepth 100000 in
theorem ev_L_law_429 {ct : Nat → Bool} {K : Kt} {R : Option AV → Hp → Prop} {n : Nat} {ls : List (Option AV)} {st : List AV} {σ : Hp} {k : Nat × Nat} : xe_L_law ct K R (n + 1) 429 ls st σ k = (lI ls 4 fun x => xk_L_law ct K R n 431 ls (vi x :: st) σ k) := exS_step.trans rfl
set_option maxRecDepth 100000 in
theorem ev_L_law_431 {ct : Nat → Bool} {K : Kt} {R : Option AV → Hp → Prop} {n : Nat} {ls : List (Option AV)} {st : List AV} {σ : Hp} {k : Nat × Nat} : xe_L_law ct K R (n + 1) 431 ls st σ k = (xk_L_law ct K R n 432 ls (vi (3) :: st) σ k) := exS_step.trans rfl
set_option maxRecDepth 100000 in
theorem ev_L_law_432 {ct : Nat → Bool} {K : Kt} {R : Option AV → Hp → Prop} {n : Nat} {ls : List (Option AV)} {st : List AV} {σ : Hp} {k : Nat × Nat} : xe_L_law ct K R (n + 1) 432 ls st σ k = (oI st fun y st => oI st fun x st => xk_L_law ct K R n 433 ls (vi (x + y) :: st) σ k) := exS_step.trans rfl
set_option maxRecDepth 100000 in
theorem ev_L_law_433 {ct : Nat → Bool} {K : Kt} {R : Option AV → Hp → Prop} {n : Nat} {ls : List (Option AV)} {st : List AV} {σ : Hp} {k : Nat × Nat} : xe_L_law ct K R (n + 1) 433 ls st σ k = (oI st fun j st => oR st fun x st => (kd σ x = 101 ∨ kd σ x = 108) ∧ (0 ≤ j ∧ j < ln σ x) ∧ xk_L_law ct K R n 434 ls (vi (aI σ x j) :: st) σ k) := exS_step.trans rfl
set_option maxRecDepth 100000 in
theorem ev_L_law_434 {ct : Nat → Bool} {K : Kt} {R : Option AV → Hp → Prop} {n : Nat} {ls : List (Option AV)} {st : List AV} {σ : Hp} {k : Nat × Nat} : xe_L_law ct K R (n + 1) 434 ls st σ k = (popN 4 st [] fun av rest => (catS rest ≤ 8 ∧ 23 < 45 ∧ k.1 + 0 ≤ 601024 ∧ k.2 + 0 ≤ 7293034) ∧ (sp_X11_reading) av σ fun v σ' => xk_L_law ct K R n 437 ls (v.toList ++ rest) σ' (k.1 + 0, k.2 + 0)) := exS_step.trans rfl
set_option maxRecDepth 100000 in
theorem ev_L_law_437 {ct : Nat → Bool} {K : Kt} {R : Option AV → Hp → Prop} {n : Nat} {ls : List (Option AV)} {st : List AV} {σ : Hp} {k : Nat × Nat} : xe_L_law ct K R (n + 1) 437 ls st σ k = (lR ls 2 fun x => xk_L_law ct K R n 438 ls (vr x :: st) σ k) := exS_step.trans rfl
set_option maxRecDepth 100000 in
theorem ev_L_law_438 {ct : Nat → Bool} {K : Kt} {R : Option AV → Hp → Prop} {n : Nat} {ls : List (Option AV)} {st : List AV} {σ : Hp} {k : Nat × Nat} : xe_L_law ct K R (n + 1) 438 ls st σ k = (lR ls 0 fun x => xk_L_law ct K R n 439 ls (vr x :: st) σ k) := exS_step.trans rfl
set_option maxRecDepth 100000 in
theorem ev_L_law_439 {ct : Nat → Bool} {K : Kt} {R : Option AV → Hp → Prop} {n : Nat} {ls : List (Option AV)} {st : List AV} {σ : Hp} {k : Nat × Nat} : xe_L_law ct K R (n + 1) 439 ls st σ k = (lI ls 4 fun x => xk_L_law ct K R n 441 ls (vi x :: st) σ k) := exS_step.trans rfl
set_option maxRecDepth 100000 in
theorem ev_L_law_441 {ct : Nat → Bool} {K : Kt} {R : Option AV → Hp → Prop} {n : Nat} {ls : List (Option AV)} {st : List AV} {σ : Hp} {k : Nat × Nat} : xe_L_law ct K R (n + 1) 441 ls st σ k = (xk_L_law ct K R n 442 ls (vi (1) :: st) σ k) := exS_step.trans rfl
set_option maxRecDepth 100000 in
theorem ev_L_law_442 {ct : Nat → Bool} {K : Kt} {R : Option AV → Hp → Prop} {n : Nat} {ls : List (Option AV)} {st : List AV} {σ : Hp} {k : Nat × Nat} : xe_L_law ct K R (n + 1) 442 ls st σ k = (oI st fun y st => oI st fun x st => xk_L_law ct K R n 443 ls (vi (x + y) :: st) σ k) := exS_step.trans rfl
set_option maxRecDepth 100000 in
theorem ev_L_law_443 {ct : Nat → Bool} {K : Kt} {R : Option AV → Hp → Prop} {n : Nat} {ls : List (Option AV)} {st : List AV} {σ : Hp} {k : Nat × Nat} : xe_L_law ct K R (n + 1) 443 ls st σ k = (oI st fun j st => oR st fun x st => (kd σ x = 101 ∨ kd σ x = 108) ∧ (0 ≤ j ∧ j < ln σ x) ∧ xk_L_law ct K R n 444 ls (vi (aI σ x j) :: st) σ k) := exS_step.trans rfl
set_option maxRecDepth 100000 in
theorem ev_L_law_444 {ct : Nat → Bool} {K : Kt} {R : Option AV → Hp → Prop} {n : Nat} {ls : List (Option AV)} {st : List AV} {σ : Hp} {k : Nat × Nat} : xe_L_law ct K R (n + 1) 444 ls st σ k = (lR ls 0 fun x => xk_L_law ct K R n 445 ls (vr x :: st) σ k) := exS_step.trans rfl
set_option maxRecDepth 100000 in
theorem ev_L_law_445 {ct : Nat → Bool} {K : Kt} {R : Option AV → Hp → Prop} {n : Nat} {ls : List (Option AV)} {st : List AV} {σ : Hp} {k : Nat × Nat} : xe_L_law ct K R (n + 1) 445 ls st σ k = (lI ls 4 fun x => xk_L_law ct K R n 447 ls (vi x :: st) σ k) := exS_step.trans rfl
set_option maxRecDepth 100000 in
theorem ev_L_law_447 {ct : Nat → Bool} {K : Kt} {R : Option AV → Hp → Prop} {n : Nat} {ls : List (Option AV)} {st : List AV} {σ : Hp} {k : Nat × Nat} : xe_L_law ct K R (n + 1) 447 ls st σ k = (xk_L_law ct K R n 448 ls (vi (2) :: st) σ k) := exS_step.trans rfl
set_option maxRecDepth 100000 in
theorem ev_L_law_448 {ct : Nat → Bool} {K : Kt} {R : Option AV → Hp → Prop} {n : Nat} {ls : List (Option AV)} {st : List AV} {σ : Hp} {k : Nat × Nat} : xe_L_law ct K R (n + 1) 448 ls st σ k = (oI st fun y st => oI st fun x st => xk_L_law ct K R n 449 ls (vi (x + y) :: st) σ k) := exS_step.trans rfl
set_option maxRecDepth 100000 in
theorem ev_L_law_449 {ct : Nat → Bool} {K : Kt} {R : Option AV → Hp → Prop} {n : Nat} {ls : List (Option AV)} {st : List AV} {σ : Hp} {k : Nat × Nat} : xe_L_law ct K R (n + 1) 449 ls st σ k = (oI st fun j st => oR st fun x st => (kd σ x = 101 ∨ kd σ x = 108) ∧ (0 ≤ j ∧ j < ln σ x) ∧ xk_L_law ct K R n 450 ls (vi (aI σ x j) :: st) σ k) := exS_step.trans rfl
set_option maxRecDepth 100000 in
theorem ev_L_law_450 {ct : Nat → Bool} {K : Kt} {R : Option AV → Hp → Prop} {n : Nat} {ls : List (Option AV)} {st : List AV} {σ : Hp} {k : Nat × Nat} : xe_L_law ct K R (n + 1) 450 ls st σ k = (lR ls 0 fun x => xk_L_law ct K R n 451 ls (vr x :: st) σ k) := exS_step.trans rfl
set_option maxRecDepth 100000 in
theorem ev_L_law_451 {ct : Nat → Bool} {K : Kt} {R : Option AV → Hp → Prop} {n : Nat} {ls : List (Option AV)} {st : List AV} {σ : Hp} {k : Nat × Nat} : xe_L_law ct K R (n + 1) 451 ls st σ k = (lI ls 4 fun x => xk_L_law ct K R n 453 ls (vi x :: st) σ k) := exS_step.trans rfl
set_option maxRecDepth 100000 in
theorem ev_L_law_453 {ct : Nat → Bool} {K : Kt} {R : Option AV → Hp → Prop} {n : Nat} {ls : List (Option AV)} {st : List AV} {σ : Hp} {k : Nat × Nat} : xe_L_law ct K R (n + 1) 453 ls st σ k = (xk_L_law ct K R n 454 ls (vi (3) :: st) σ k) := exS_step.trans rfl
set_option maxRecDepth 100000 in
theorem ev_L_law_454 {ct : Nat → Bool} {K : Kt} {R : Option AV → Hp → Prop} {n : Nat} {ls : List (Option AV)} {st : List AV} {σ : Hp} {k : Nat × Nat} : xe_L_law ct K R (n + 1) 454 ls st σ k = (oI st fun y st => oI st fun x st => xk_L_law ct K R n 455 ls (vi (x + y) :: st) σ k) := exS_step.trans rfl
set_option maxRecDepth 100000 in
theorem ev_L_law_455 {ct : Nat → Bool} {K : Kt} {R : Option AV → Hp → Prop} {n : Nat} {ls : List (Option AV)} {st : List AV} {σ : Hp} {k : Nat × Nat} : xe_L_law ct K R (n + 1) 455 ls st σ k = (oI st fun j st => oR st fun x st => (kd σ x = 101 ∨ kd σ x = 108) ∧ (0 ≤ j ∧ j < ln σ x) ∧ xk_L_law ct K R n 456 ls (vi (aI σ x j) :: st) σ k) := exS_step.trans rfl
set_option maxRecDepth 100000 in
theorem ev_L_law_456 {ct : Nat → Bool} {K : Kt} {R : Option AV → Hp → Prop} {n : Nat} {ls : List (Option AV)} {st : List AV} {σ : Hp} {k : Nat × Nat} : xe_L_law ct K R (n + 1) 456 ls st σ k = (popN 4 st [] fun av rest => (catS rest ≤ 8 ∧ 5 < 45 ∧ k.1 + 0 ≤ 601024 ∧ k.2 + 0 ≤ 7293034) ∧ (sp_X12_reading) av σ fun v σ' => xk_L_law ct K R n 459 ls (v.toList ++ rest) σ' (k.1 + 0, k.2 + 0)) := exS_step.trans rfl
set_option maxRecDepth 100000 in
theorem ev_L_law_459 {ct : Nat → Bool} {K : Kt} {R : Option AV → Hp → Prop} {n : Nat} {ls : List (Option AV)} {st : List AV} {σ : Hp} {k : Nat × Nat} : xe_L_law ct K R (n + 1) 459 ls st σ k = (oI st fun y st => oI st fun x st => (wI x = wI y → xk_L_law ct K R n 1333 ls st σ k) ∧ (¬ (wI x = wI y) → xk_L_law ct K R n 462 ls st σ k)) := exS_step.trans rfl
set_option maxRecDepth 100000 in
theorem ev_L_law_462 {ct : Nat → Bool} {K : Kt} {R : Option AV → Hp → Prop} {n : Nat} {ls : List (Option AV)} {st : List AV} {σ : Hp} {k : Nat × Nat} : xe_L_law ct K R (n + 1) 462 ls st σ k = (xk_L_law ct K R n 463 ls (vi (0) :: st) σ k) := exS_step.trans rfl
set_option maxRecDepth 100000 in
theorem ev_L_law_463 {ct : Nat → Bool} {K : Kt} {R : Option AV → Hp → Prop} {n : Nat} {ls : List (Option AV)} {st : List AV} {σ : Hp} {k : Nat × Nat} : xe_L_law ct K R (n + 1) 463 ls st σ k = (oI st fun x st => st = [] ∧ (x = 0 ∨ x = 1) ∧ R (some (vi x)) σ) := exS_step.trans rfl
set_option maxRecDepth 100000 in
theorem ev_L_law_464 {ct : Nat → Bool} {K : Kt} {R : Option AV → Hp → Prop} {n : Nat} {ls : List (Option AV)} {st : List AV} {σ : Hp} {k : Nat × Nat} : xe_L_law ct K R (n + 1) 464 ls st σ k = (lR ls 1 fun x => xk_L_law ct K R n 465 ls (vr x :: st) σ k) := exS_step.trans rfl
set_option maxRecDepth 100000 in
theorem ev_L_law_465 {ct : Nat → Bool} {K : Kt} {R : Option AV → Hp → Prop} {n : Nat} {ls : List (Option AV)} {st : List AV} {σ : Hp} {k : Nat × Nat} : xe_L_law ct K R (n + 1) 465 ls st σ k = (popN 1 st [] fun av rest => (catS rest ≤ 8 ∧ 1 < 45 ∧ k.1 + 0 ≤ 601024 ∧ k.2 + 0 ≤ 7293034) ∧ (sp_X11_stories) av σ fun v σ' => xk_L_law ct K R n 468 ls (v.toList ++ rest) σ' (k.1 + 0, k.2 + 0)) := exS_step.trans rfl
set_option maxRecDepth 100000 in
theorem ev_L_law_468 {ct : Nat → Bool} {K : Kt} {R : Option AV → Hp → Prop} {n : Nat} {ls : List (Option AV)} {st : List AV} {σ : Hp} {k : Nat × Nat} : xe_L_law ct K R (n + 1) 468 ls st σ k = (lR ls 2 fun x => xk_L_law ct K R n 469 ls (vr x :: st) σ k) := exS_step.trans rfl
set_option maxRecDepth 100000 in
theorem ev_L_law_469 {ct : Nat → Bool} {K : Kt} {R : Option AV → Hp → Prop} {n : Nat} {ls : List (Option AV)} {st : List AV} {σ : Hp} {k : Nat × Nat} : xe_L_law ct K R (n + 1) 469 ls st σ k = (popN 1 st [] fun av rest => (catS rest ≤ 8 ∧ 1 < 45 ∧ k.1 + 0 ≤ 601024 ∧ k.2 + 0 ≤ 7293034) ∧ (sp_X12_stories) av σ fun v σ' => xk_L_law ct K R n 472 ls (v.toList ++ rest) σ' (k.1 + 0, k.2 + 0)) := exS_step.trans rfl
set_option maxRecDepth 100000 in
theorem ev_L_law_472 {ct : Nat → Bool} {K : Kt} {R : Option AV → Hp → Prop} {n : Nat} {ls : List (Option AV)} {st : List AV} {σ : Hp} {k : Nat × Nat} : xe_L_law ct K R (n + 1) 472 ls st σ k = (oI st fun y st => oI st fun x st => (wI x = wI y → xk_L_law ct K R n 1333 ls st σ k) ∧ (¬ (wI x = wI y) → xk_L_law ct K R n 475 ls st σ k)) := exS_step.trans rfl
set_option maxRecDepth 100000 in
theorem ev_L_law_475 {ct : Nat → Bool} {K : Kt} {R : Option AV → Hp → Prop} {n : Nat} {ls : List (Option AV)} {st : List AV} {σ : Hp} {k : Nat × Nat} : xe_L_law ct K R (n + 1) 475 ls st σ k = (xk_L_law ct K R n 476 ls (vi (0) :: st) σ k) := exS_step.trans rfl
set_option maxRecDepth 100000 in
theorem ev_L_law_476 {ct : Nat → Bool} {K : Kt} {R : Option AV → Hp → Prop} {n : Nat} {ls : List (Option AV)} {st : List AV} {σ : Hp} {k : Nat × Nat} : xe_L_law ct K R (n + 1) 476 ls st σ k = (oI st fun x st => st = [] ∧ (x = 0 ∨ x = 1) ∧ R (some (vi x)) σ) := exS_step.trans rfl
set_option maxRecDepth 100000 in
theorem ev_L_law_477 {ct : Nat → Bool} {K : Kt} {R : Option AV → Hp → Prop} {n : Nat} {ls : List (Option AV)} {st : List AV} {σ : Hp} {k : Nat × Nat} : xe_L_law ct K R (n + 1) 477 ls st σ k = (lR ls 1 fun x => xk_L_law ct K R n 478 ls (vr x :: st) σ k) := exS_step.trans rfl
set_option maxRecDepth 100000 in
theorem ev_L_law_478 {ct : Nat → Bool} {K : Kt} {R : Option AV → Hp → Prop} {n : Nat} {ls : List (Option AV)} {st : List AV} {σ : Hp} {k : Nat × Nat} : xe_L_law ct K R (n + 1) 478 ls st σ k = (lR ls 0 fun x => xk_L_law ct K R n 479 ls (vr x :: st) σ k) := exS_step.trans rfl
set_option maxRecDepth 100000 in
theorem ev_L_law_479 {ct : Nat → Bool} {K : Kt} {R : Option AV → Hp → Prop} {n : Nat} {ls : List (Option AV)} {st : List AV} {σ : Hp} {k : Nat × Nat} : xe_L_law ct K R (n + 1) 479 ls st σ k = (lI ls 4 fun x => xk_L_law ct K R n 481 ls (vi x :: st) σ k) := exS_step.trans rfl
set_option maxRecDepth 100000 in
theorem ev_L_law_481 {ct : Nat → Bool} {K : Kt} {R : Option AV → Hp → Prop} {n : Nat} {ls : List (Option AV)} {st : List AV} {σ : Hp} {k : Nat × Nat} : xe_L_law ct K R (n + 1) 481 ls st σ k = (xk_L_law ct K R n 482 ls (vi (1) :: st) σ k) := exS_step.trans rfl
set_option maxRecDepth 100000 in
theorem ev_L_law_482 {ct : Nat → Bool} {K : Kt} {R : Option AV → Hp → Prop} {n : Nat} {ls : List (Option AV)} {st : List AV} {σ : Hp} {k : Nat × Nat} : xe_L_law ct K R (n + 1) 482 ls st σ k = (oI st fun y st => oI st fun x st => xk_L_law ct K R n 483 ls (vi (x + y) :: st) σ k) := exS_step.trans rfl
set_option maxRecDepth 100000 in
theorem ev_L_law_483 {ct : Nat → Bool} {K : Kt} {R : Option AV → Hp → Prop} {n : Nat} {ls : List (Option AV)} {st : List AV} {σ : Hp} {k : Nat × Nat} : xe_L_law ct K R (n + 1) 483 ls st σ k = (oI st fun j st => oR st fun x st => (kd σ x = 101 ∨ kd σ x = 108) ∧ (0 ≤ j ∧ j < ln σ x) ∧ xk_L_law ct K R n 484 ls (vi (aI σ x j) :: st) σ k) := exS_step.trans rfl
set_option maxRecDepth 100000 in
theorem ev_L_law_484 {ct : Nat → Bool} {K : Kt} {R : Option AV → Hp → Prop} {n : Nat} {ls : List (Option AV)} {st : List AV} {σ : Hp} {k : Nat × Nat} : xe_L_law ct K R (n + 1) 484 ls st σ k = (lR ls 0 fun x => xk_L_law ct K R n 485 ls (vr x :: st) σ k) := exS_step.trans rfl
set_option maxRecDepth 100000 in
theorem ev_L_law_485 {ct : Nat → Bool} {K : Kt} {R : Option AV → Hp → Prop} {n : Nat} {ls : List (Option AV)} {st : List AV} {σ : Hp} {k : Nat × Nat} : xe_L_law ct K R (n + 1) 485 ls st σ k = (lI ls 4 fun x => xk_L_law ct K R n 487 ls (vi x :: st) σ k) := exS_step.trans rfl
set_option maxRecDepth 100000 in
theorem ev_L_law_487 {ct : Nat → Bool} {K : Kt} {R : Option AV → Hp → Prop} {n : Nat} {ls : List (Option AV)} {st : List AV} {σ : Hp} {k : Nat × Nat} : xe_L_law ct K R (n + 1) 487 ls st σ k = (xk_L_law ct K R n 488 ls (vi (2) :: st) σ k) := exS_step.trans rfl
set_option maxRecDepth 100000 in
theorem ev_L_law_488 {ct : Nat → Bool} {K : Kt} {R : Option AV → Hp → Prop} {n : Nat} {ls : List (Option AV)} {st : List AV} {σ : Hp} {k : Nat × Nat} : xe_L_law ct K R (n + 1) 488 ls st σ k = (oI st fun y st => oI st fun x st => xk_L_law ct K R n 489 ls (vi (x + y) :: st) σ k) := exS_step.trans rfl
set_option maxRecDepth 100000 in
theorem ev_L_law_489 {ct : Nat → Bool} {K : Kt} {R : Option AV → Hp → Prop} {n : Nat} {ls : List (Option AV)} {st : List AV} {σ : Hp} {k : Nat × Nat} : xe_L_law ct K R (n + 1) 489 ls st σ k = (oI st fun j st => oR st fun x st => (kd σ x = 101 ∨ kd σ x = 108) ∧ (0 ≤ j ∧ j < ln σ x) ∧ xk_L_law ct K R n 490 ls (vi (aI σ x j) :: st) σ k) := exS_step.trans rfl
set_option maxRecDepth 100000 in
theorem ev_L_law_490 {ct : Nat → Bool} {K : Kt} {R : Option AV → Hp → Prop} {n : Nat} {ls : List (Option AV)} {st : List AV} {σ : Hp} {k : Nat × Nat} : xe_L_law ct K R (n + 1) 490 ls st σ k = (lR ls 0 fun x => xk_L_law ct K R n 491 ls (vr x :: st) σ k) := exS_step.trans rfl
set_option maxRecDepth 100000 in
theorem ev_L_law_491 {ct : Nat → Bool} {K : Kt} {R : Option AV → Hp → Prop} {n : Nat} {ls : List (Option AV)} {st : List AV} {σ : Hp} {k : Nat × Nat} : xe_L_law ct K R (n + 1) 491 ls st σ k = (lI ls 4 fun x => xk_L_law ct K R n 493 ls (vi x :: st) σ k) := exS_step.trans rfl
set_option maxRecDepth 100000 in
theorem ev_L_law_493 {ct : Nat → Bool} {K : Kt} {R : Option AV → Hp → Prop} {n : Nat} {ls : List (Option AV)} {st : List AV} {σ : Hp} {k : Nat × Nat} : xe_L_law ct K R (n + 1) 493 ls st σ k = (xk_L_law ct K R n 494 ls (vi (3) :: st) σ k) := exS_step.trans rfl
set_option maxRecDepth 100000 in
theorem ev_L_law_494 {ct : Nat → Bool} {K : Kt} {R : Option AV → Hp → Prop} {n : Nat} {ls : List (Option AV)} {st : List AV} {σ : Hp} {k : Nat × Nat} : xe_L_law ct K R (n + 1) 494 ls st σ k = (oI st fun y st => oI st fun x st => xk_L_law ct K R n 495 ls (vi (x + y) :: st) σ k) := exS_step.trans rfl
set_option maxRecDepth 100000 in
theorem ev_L_law_495 {ct : Nat → Bool} {K : Kt} {R : Option AV → Hp → Prop} {n : Nat} {ls : List (Option AV)} {st : List AV} {σ : Hp} {k : Nat × Nat} : xe_L_law ct K R (n + 1) 495 ls st σ k = (oI st fun j st => oR st fun x st => (kd σ x = 101 ∨ kd σ x = 108) ∧ (0 ≤ j ∧ j < ln σ x) ∧ xk_L_law ct K R n 496 ls (vi (aI σ x j) :: st) σ k) := exS_step.trans rfl
set_option maxRecDepth 100000 in
theorem ev_L_law_496 {ct : Nat → Bool} {K : Kt} {R : Option AV → Hp → Prop} {n : Nat} {ls : List (Option AV)} {st : List AV} {σ : Hp} {k : Nat × Nat} : xe_L_law ct K R (n + 1) 496 ls st σ k = (popN 4 st [] fun av rest => (catS rest ≤ 8 ∧ 5 < 45 ∧ k.1 + 0 ≤ 601024 ∧ k.2 + 0 ≤ 7293034) ∧ (sp_X11_story) av σ fun v σ' => xk_L_law ct K R n 499 ls (v.toList ++ rest) σ' (k.1 + 0, k.2 + 0)) := exS_step.trans rfl
set_option maxRecDepth 100000 in
theorem ev_L_law_499 {ct : Nat → Bool} {K : Kt} {R : Option AV → Hp → Prop} {n : Nat} {ls : List (Option AV)} {st : List AV} {σ : Hp} {k : Nat × Nat} : xe_L_law ct K R (n + 1) 499 ls st σ k = (lR ls 2 fun x => xk_L_law ct K R n 500 ls (vr x :: st) σ k) := exS_step.trans rfl
set_option maxRecDepth 100000 in
theorem ev_L_law_500 {ct : Nat → Bool} {K : Kt} {R : Option AV → Hp → Prop} {n : Nat} {ls : List (Option AV)} {st : List AV} {σ : Hp} {k : Nat × Nat} : xe_L_law ct K R (n + 1) 500 ls st σ k = (lR ls 0 fun x => xk_L_law ct K R n 501 ls (vr x :: st) σ k) := exS_step.trans rfl
set_option maxRecDepth 100000 in
theorem ev_L_law_501 {ct : Nat → Bool} {K : Kt} {R : Option AV → Hp → Prop} {n : Nat} {ls : List (Option AV)} {st : List AV} {σ : Hp} {k : Nat × Nat} : xe_L_law ct K R (n + 1) 501 ls st σ k = (lI ls 4 fun x => xk_L_law ct K R n 503 ls (vi x :: st) σ k) := exS_step.trans rfl
set_option maxRecDepth 100000 in
theorem ev_L_law_503 {ct : Nat → Bool} {K : Kt} {R : Option AV → Hp → Prop} {n : Nat} {ls : List (Option AV)} {st : List AV} {σ : Hp} {k : Nat × Nat} : xe_L_law ct K R (n + 1) 503 ls st σ k = (xk_L_law ct K R n 504 ls (vi (1) :: st) σ k) := exS_step.trans rfl
set_option maxRecDepth 100000 in
theorem ev_L_law_504 {ct : Nat → Bool} {K : Kt} {R : Option AV → Hp → Prop} {n : Nat} {ls : List (Option AV)} {st : List AV} {σ : Hp} {k : Nat × Nat} : xe_L_law ct K R (n + 1) 504 ls st σ k = (oI st fun y st => oI st fun x st => xk_L_law ct K R n 505 ls (vi (x + y) :: st) σ k) := exS_step.trans rfl
set_option maxRecDepth 100000 in
theorem ev_L_law_505 {ct : Nat → Bool} {K : Kt} {R : Option AV → Hp → Prop} {n : Nat} {ls : List (Option AV)} {st : List AV} {σ : Hp} {k : Nat × Nat} : xe_L_law ct K R (n + 1) 505 ls st σ k = (oI st fun j st => oR st fun x st => (kd σ x = 101 ∨ kd σ x = 108) ∧ (0 ≤ j ∧ j < ln σ x) ∧ xk_L_law ct K R n 506 ls (vi (aI σ x j) :: st) σ k) := exS_step.trans rfl
set_option maxRecDepth 100000 in
theorem ev_L_law_506 {ct : Nat → Bool} {K : Kt} {R : Option AV → Hp → Prop} {n : Nat} {ls : List (Option AV)} {st : List AV} {σ : Hp} {k : Nat × Nat} : xe_L_law ct K R (n + 1) 506 ls st σ k = (lR ls 0 fun x => xk_L_law ct K R n 507 ls (vr x :: st) σ k) := exS_step.trans rfl
set_option maxRecDepth 100000 in
theorem ev_L_law_507 {ct : Nat → Bool} {K : Kt} {R : Option AV → Hp → Prop} {n : Nat} {ls : List (Option AV)} {st : List AV} {σ : Hp} {k : Nat × Nat} : xe_L_law ct K R (n + 1) 507 ls st σ k = (lI ls 4 fun x => xk_L_law ct K R n 509 ls (vi x :: st) σ k) := exS_step.trans rfl
set_option maxRecDepth 100000 in
theorem ev_L_law_509 {ct : Nat → Bool} {K : Kt} {R : Option AV → Hp → Prop} {n : Nat} {ls : List (Option AV)} {st : List AV} {σ : Hp} {k : Nat × Nat} : xe_L_law ct K R (n + 1) 509 ls st σ k = (xk_L_law ct K R n 510 ls (vi (2) :: st) σ k) := exS_step.trans rfl
set_option maxRecDepth 100000 in
theorem ev_L_law_510 {ct : Nat → Bool} {K : Kt} {R : Option AV → Hp → Prop} {n : Nat} {ls : List (Option AV)} {st : List AV} {σ : Hp} {k : Nat × Nat} : xe_L_law ct K R (n + 1) 510 ls st σ k = (oI st fun y st => oI st fun x st => xk_L_law ct K R n 511 ls (vi (x + y) :: st) σ k) := exS_step.trans rfl
set_option maxRecDepth 100000 in
theorem ev_L_law_511 {ct : Nat → Bool} {K : Kt} {R : Option AV → Hp → Prop} {n : Nat} {ls : List (Option AV)} {st : List AV} {σ : Hp} {k : Nat × Nat} : xe_L_law ct K R (n + 1) 511 ls st σ k = (oI st fun j st => oR st fun x st => (kd σ x = 101 ∨ kd σ x = 108) ∧ (0 ≤ j ∧ j < ln σ x) ∧ xk_L_law ct K R n 512 ls (vi (aI σ x j) :: st) σ k) := exS_step.trans rfl
set_option maxRecDepth 100000 in
theorem ev_L_law_512 {ct : Nat → Bool} {K : Kt} {R : Option AV → Hp → Prop} {n : Nat} {ls : List (Option AV)} {st : List AV} {σ : Hp} {k : Nat × Nat} : xe_L_law ct K R (n + 1) 512 ls st σ k = (lR ls 0 fun x => xk_L_law ct K R n 513 ls (vr x :: st) σ k) := exS_step.trans rfl
set_option maxRecDepth 100000 in
theorem ev_L_law_513 {ct : Nat → Bool} {K : Kt} {R : Option AV → Hp → Prop} {n : Nat} {ls : List (Option AV)} {st : List AV} {σ : Hp} {k : Nat × Nat} : xe_L_law ct K R (n + 1) 513 ls st σ k = (lI ls 4 fun x => xk_L_law ct K R n 515 ls (vi x :: st) σ k) := exS_step.trans rfl
set_option maxRecDepth 100000 in
theorem ev_L_law_515 {ct : Nat → Bool} {K : Kt} {R : Option AV → Hp → Prop} {n : Nat} {ls : List (Option AV)} {st : List AV} {σ : Hp} {k : Nat × Nat} : xe_L_law ct K R (n + 1) 515 ls st σ k = (xk_L_law ct K R n 516 ls (vi (3) :: st) σ k) := exS_step.trans rfl
set_option maxRecDepth 100000 in
theorem ev_L_law_516 {ct : Nat → Bool} {K : Kt} {R : Option AV → Hp → Prop} {n : Nat} {ls : List (Option AV)} {st : List AV} {σ : Hp} {k : Nat × Nat} : xe_L_law ct K R (n + 1) 516 ls st σ k = (oI st fun y st => oI st fun x st => xk_L_law ct K R n 517 ls (vi (x + y) :: st) σ k) := exS_step.trans rfl
set_option maxRecDepth 100000 in
theorem ev_L_law_517 {ct : Nat → Bool} {K : Kt} {R : Option AV → Hp → Prop} {n : Nat} {ls : List (Option AV)} {st : List AV} {σ : Hp} {k : Nat × Nat} : xe_L_law ct K R (n + 1) 517 ls st σ k = (oI st fun j st => oR st fun x st => (kd σ x = 101 ∨ kd σ x = 108) ∧ (0 ≤ j ∧ j < ln σ x) ∧ xk_L_law ct K R n 518 ls (vi (aI σ x j) :: st) σ k) := exS_step.trans rfl
set_option maxRecDepth 100000 in
theorem ev_L_law_518 {ct : Nat → Bool} {K : Kt} {R : Option AV → Hp → Prop} {n : Nat} {ls : List (Option AV)} {st : List AV} {σ : Hp} {k : Nat × Nat} : xe_L_law ct K R (n + 1) 518 ls st σ k = (popN 4 st [] fun av rest => (catS rest ≤ 8 ∧ 3 < 45 ∧ k.1 + 0 ≤ 601024 ∧ k.2 + 0 ≤ 7293034) ∧ (sp_X12_story) av σ fun v σ' => xk_L_law ct K R n 521 ls (v.toList ++ rest) σ' (k.1 + 0, k.2 + 0)) := exS_step.trans rfl
set_option maxRecDepth 100000 in
theorem ev_L_law_521 {ct : Nat → Bool} {K : Kt} {R : Option AV → Hp → Prop} {n : Nat} {ls : List (Option AV)} {st : List AV} {σ : Hp} {k : Nat × Nat} : xe_L_law ct K R (n + 1) 521 ls st σ k = (oI st fun y st => oI st fun x st => (wI x = wI y → xk_L_law ct K R n 1333 ls st σ k) ∧ (¬ (wI x = wI y) → xk_L_law ct K R n 524 ls st σ k)) := exS_step.trans rfl
set_option maxRecDepth 100000 in
theorem ev_L_law_524 {ct : Nat → Bool} {K : Kt} {R : Option AV → Hp → Prop} {n : Nat} {ls : List (Option AV)} {st : List AV} {σ : Hp} {k : Nat × Nat} : xe_L_law ct K R (n + 1) 524 ls st σ k = (xk_L_law ct K R n 525 ls (vi (0) :: st) σ k) := exS_step.trans rfl
set_option maxRecDepth 100000 in
theorem ev_L_law_525 {ct : Nat → Bool} {K : Kt} {R : Option AV → Hp → Prop} {n : Nat} {ls : List (Option AV)} {st : List AV} {σ : Hp} {k : Nat × Nat} : xe_L_law ct K R (n + 1) 525 ls st σ k = (oI st fun x st => st = [] ∧ (x = 0 ∨ x = 1) ∧ R (some (vi x)) σ) := exS_step.trans rfl
set_option maxRecDepth 100000 in
theorem ev_L_law_526 {ct : Nat → Bool} {K : Kt} {R : Option AV → Hp → Prop} {n : Nat} {ls : List (Option AV)} {st : List AV} {σ : Hp} {k : Nat × Nat} : xe_L_law ct K R (n + 1) 526 ls st σ k = (lR ls 1 fun x => xk_L_law ct K R n 527 ls (vr x :: st) σ k) := exS_step.trans rfl
set_option maxRecDepth 100000 in
theorem ev_L_law_527 {ct : Nat → Bool} {K : Kt} {R : Option AV → Hp → Prop} {n : Nat} {ls : List (Option AV)} {st : List AV} {σ : Hp} {k : Nat × Nat} : xe_L_law ct K R (n + 1) 527 ls st σ k = (popN 1 st [] fun av rest => (catS rest ≤ 8 ∧ 5 < 45 ∧ k.1 + 0 ≤ 601024 ∧ k.2 + 0 ≤ 7293034) ∧ (sp_X11_ask) av σ fun v σ' => xk_L_law ct K R n 530 ls (v.toList ++ rest) σ' (k.1 + 0, k.2 + 0)) := exS_step.trans rfl
set_option maxRecDepth 100000 in
theorem ev_L_law_530 {ct : Nat → Bool} {K : Kt} {R : Option AV → Hp → Prop} {n : Nat} {ls : List (Option AV)} {st : List AV} {σ : Hp} {k : Nat × Nat} : xe_L_law ct K R (n + 1) 530 ls st σ k = (lR ls 2 fun x => xk_L_law ct K R n 531 ls (vr x :: st) σ k) := exS_step.trans rfl
set_option maxRecDepth 100000 in
theorem ev_L_law_531 {ct : Nat → Bool} {K : Kt} {R : Option AV → Hp → Prop} {n : Nat} {ls : List (Option AV)} {st : List AV} {σ : Hp} {k : Nat × Nat} : xe_L_law ct K R (n + 1) 531 ls st σ k = (popN 1 st [] fun av rest => (catS rest ≤ 8 ∧ 2 < 45 ∧ k.1 + 0 ≤ 601024 ∧ k.2 + 0 ≤ 7293034) ∧ (sp_X12_ask) av σ fun v σ' => xk_L_law ct K R n 534 ls (v.toList ++ rest) σ' (k.1 + 0, k.2 + 0)) := exS_step.trans rfl
set_option maxRecDepth 100000 in
theorem ev_L_law_534 {ct : Nat → Bool} {K : Kt} {R : Option AV → Hp → Prop} {n : Nat} {ls : List (Option AV)} {st : List AV} {σ : Hp} {k : Nat × Nat} : xe_L_law ct K R (n + 1) 534 ls st σ k = (oI st fun y st => oI st fun x st => (wI x = wI y → xk_L_law ct K R n 1333 ls st σ k) ∧ (¬ (wI x = wI y) → xk_L_law ct K R n 537 ls st σ k)) := exS_step.trans rfl
set_option maxRecDepth 100000 in
theorem ev_L_law_537 {ct : Nat → Bool} {K : Kt} {R : Option AV → Hp → Prop} {n : Nat} {ls : List (Option AV)} {st : List AV} {σ : Hp} {k : Nat × Nat} : xe_L_law ct K R (n + 1) 537 ls st σ k = (xk_L_law ct K R n 538 ls (vi (0) :: st) σ k) := exS_step.trans rfl
set_option maxRecDepth 100000 in
theorem ev_L_law_538 {ct : Nat → Bool} {K : Kt} {R : Option AV → Hp → Prop} {n : Nat} {ls : List (Option AV)} {st : List AV} {σ : Hp} {k : Nat × Nat} : xe_L_law ct K R (n + 1) 538 ls st σ k = (oI st fun x st => st = [] ∧ (x = 0 ∨ x = 1) ∧ R (some (vi x)) σ) := exS_step.trans rfl
set_option maxRecDepth 100000 in
theorem ev_L_law_539 {ct : Nat → Bool} {K : Kt} {R : Option AV → Hp → Prop} {n : Nat} {ls : List (Option AV)} {st : List AV} {σ : Hp} {k : Nat × Nat} : xe_L_law ct K R (n + 1) 539 ls st σ k = (lR ls 1 fun x => xk_L_law ct K R n 540 ls (vr x :: st) σ k) := exS_step.trans rfl
set_option maxRecDepth 100000 in
theorem ev_L_law_540 {ct : Nat → Bool} {K : Kt} {R : Option AV → Hp → Prop} {n : Nat} {ls : List (Option AV)} {st : List AV} {σ : Hp} {k : Nat × Nat} : xe_L_law ct K R (n + 1) 540 ls st σ k = (lR ls 0 fun x => xk_L_law ct K R n 541 ls (vr x :: st) σ k) := exS_step.trans rfl
set_option maxRecDepth 100000 in
theorem ev_L_law_541 {ct : Nat → Bool} {K : Kt} {R : Option AV → Hp → Prop} {n : Nat} {ls : List (Option AV)} {st : List AV} {σ : Hp} {k : Nat × Nat} : xe_L_law ct K R (n + 1) 541 ls st σ k = (lI ls 4 fun x => xk_L_law ct K R n 543 ls (vi x :: st) σ k) := exS_step.trans rfl
set_option maxRecDepth 100000 in
theorem ev_L_law_543 {ct : Nat → Bool} {K : Kt} {R : Option AV → Hp → Prop} {n : Nat} {ls : List (Option AV)} {st : List AV} {σ : Hp} {k : Nat × Nat} : xe_L_law ct K R (n + 1) 543 ls st σ k = (xk_L_law ct K R n 544 ls (vi (1) :: st) σ k) := exS_step.trans rfl
set_option maxRecDepth 100000 in
theorem ev_L_law_544 {ct : Nat → Bool} {K : Kt} {R : Option AV → Hp → Prop} {n : Nat} {ls : List (Option AV)} {st : List AV} {σ : Hp} {k : Nat × Nat} : xe_L_law ct K R (n + 1) 544 ls st σ k = (oI st fun y st => oI st fun x st => xk_L_law ct K R n 545 ls (vi (x + y) :: st) σ k) := exS_step.trans rfl
set_option maxRecDepth 100000 in
theorem ev_L_law_545 {ct : Nat → Bool} {K : Kt} {R : Option AV → Hp → Prop} {n : Nat} {ls : List (Option AV)} {st : List AV} {σ : Hp} {k : Nat × Nat} : xe_L_law ct K R (n + 1) 545 ls st σ k = (oI st fun j st => oR st fun x st => (kd σ x = 101 ∨ kd σ x = 108) ∧ (0 ≤ j ∧ j < ln σ x) ∧ xk_L_law ct K R n 546 ls (vi (aI σ x j) :: st) σ k) := exS_step.trans rfl
set_option maxRecDepth 100000 in
theorem ev_L_law_546 {ct : Nat → Bool} {K : Kt} {R : Option AV → Hp → Prop} {n : Nat} {ls : List (Option AV)} {st : List AV} {σ : Hp} {k : Nat × Nat} : xe_L_law ct K R (n + 1) 546 ls st σ k = (lR ls 0 fun x => xk_L_law ct K R n 547 ls (vr x :: st) σ k) := exS_step.trans rfl
set_option maxRecDepth 100000 in
theorem ev_L_law_547 {ct : Nat → Bool} {K : Kt} {R : Option AV → Hp → Prop} {n : Nat} {ls : List (Option AV)} {st : List AV} {σ : Hp} {k : Nat × Nat} : xe_L_law ct K R (n + 1) 547 ls st σ k = (lI ls 4 fun x => xk_L_law ct K R n 549 ls (vi x :: st) σ k) := exS_step.trans rfl
set_option maxRecDepth 100000 in
theorem ev_L_law_549 {ct : Nat → Bool} {K : Kt} {R : Option AV → Hp → Prop} {n : Nat} {ls : List (Option AV)} {st : List AV} {σ : Hp} {k : Nat × Nat} : xe_L_law ct K R (n + 1) 549 ls st σ k = (xk_L_law ct K R n 550 ls (vi (2) :: st) σ k) := exS_step.trans rfl
set_option maxRecDepth 100000 in
theorem ev_L_law_550 {ct : Nat → Bool} {K : Kt} {R : Option AV → Hp → Prop} {n : Nat} {ls : List (Option AV)} {st : List AV} {σ : Hp} {k : Nat × Nat} : xe_L_law ct K R (n + 1) 550 ls st σ k = (oI st fun y st => oI st fun x st => xk_L_law ct K R n 551 ls (vi (x + y) :: st) σ k) := exS_step.trans rfl
set_option maxRecDepth 100000 in
theorem ev_L_law_551 {ct : Nat → Bool} {K : Kt} {R : Option AV → Hp → Prop} {n : Nat} {ls : List (Option AV)} {st : List AV} {σ : Hp} {k : Nat × Nat} : xe_L_law ct K R (n + 1) 551 ls st σ k = (oI st fun j st => oR st fun x st => (kd σ x = 101 ∨ kd σ x = 108) ∧ (0 ≤ j ∧ j < ln σ x) ∧ xk_L_law ct K R n 552 ls (vi (aI σ x j) :: st) σ k) := exS_step.trans rfl
set_option maxRecDepth 100000 in
theorem ev_L_law_552 {ct : Nat → Bool} {K : Kt} {R : Option AV → Hp → Prop} {n : Nat} {ls : List (Option AV)} {st : List AV} {σ : Hp} {k : Nat × Nat} : xe_L_law ct K R (n + 1) 552 ls st σ k = (popN 3 st [] fun av rest => (catS rest ≤ 8 ∧ 2 < 45 ∧ k.1 + 0 ≤ 601024 ∧ k.2 + 0 ≤ 7293034) ∧ (sp_X11_house) av σ fun v σ' => xk_L_law ct K R n 555 ls (v.toList ++ rest) σ' (k.1 + 0, k.2 + 0)) := exS_step.trans rfl
set_option maxRecDepth 100000 in
theorem ev_L_law_555 {ct : Nat → Bool} {K : Kt} {R : Option AV → Hp → Prop} {n : Nat} {ls : List (Option AV)} {st : List AV} {σ : Hp} {k : Nat × Nat} : xe_L_law ct K R (n + 1) 555 ls st σ k = (lR ls 2 fun x => xk_L_law ct K R n 556 ls (vr x :: st) σ k) := exS_step.trans rfl
set_option maxRecDepth 100000 in
theorem ev_L_law_556 {ct : Nat → Bool} {K : Kt} {R : Option AV → Hp → Prop} {n : Nat} {ls : List (Option AV)} {st : List AV} {σ : Hp} {k : Nat × Nat} : xe_L_law ct K R (n + 1) 556 ls st σ k = (lR ls 0 fun x => xk_L_law ct K R n 557 ls (vr x :: st) σ k) := exS_step.trans rfl
set_option maxRecDepth 100000 in
theorem ev_L_law_557 {ct : Nat → Bool} {K : Kt} {R : Option AV → Hp → Prop} {n : Nat} {ls : List (Option AV)} {st : List AV} {σ : Hp} {k : Nat × Nat} : xe_L_law ct K R (n + 1) 557 ls st σ k = (lI ls 4 fun x => xk_L_law ct K R n 559 ls (vi x :: st) σ k) := exS_step.trans rfl
set_option maxRecDepth 100000 in
theorem ev_L_law_559 {ct : Nat → Bool} {K : Kt} {R : Option AV → Hp → Prop} {n : Nat} {ls : List (Option AV)} {st : List AV} {σ : Hp} {k : Nat × Nat} : xe_L_law ct K R (n + 1) 559 ls st σ k = (xk_L_law ct K R n 560 ls (vi (1) :: st) σ k) := exS_step.trans rfl
set_option maxRecDepth 100000 in
theorem ev_L_law_560 {ct : Nat → Bool} {K : Kt} {R : Option AV → Hp → Prop} {n : Nat} {ls : List (Option AV)} {st : List AV} {σ : Hp} {k : Nat × Nat} : xe_L_law ct K R (n + 1) 560 ls st σ k = (oI st fun y st => oI st fun x st => xk_L_law ct K R n 561 ls (vi (x + y) :: st) σ k) := exS_step.trans rfl
set_option maxRecDepth 100000 in
theorem ev_L_law_561 {ct : Nat → Bool} {K : Kt} {R : Option AV → Hp → Prop} {n : Nat} {ls : List (Option AV)} {st : List AV} {σ : Hp} {k : Nat × Nat} : xe_L_law ct K R (n + 1) 561 ls st σ k = (oI st fun j st => oR st fun x st => (kd σ x = 101 ∨ kd σ x = 108) ∧ (0 ≤ j ∧ j < ln σ x) ∧ xk_L_law ct K R n 562 ls (vi (aI σ x j) :: st) σ k) := exS_step.trans rfl
set_option maxRecDepth 100000 in
theorem ev_L_law_562 {ct : Nat → Bool} {K : Kt} {R : Option AV → Hp → Prop} {n : Nat} {ls : List (Option AV)} {st : List AV} {σ : Hp} {k : Nat × Nat} : xe_L_law ct K R (n + 1) 562 ls st σ k = (lR ls 0 fun x => xk_L_law ct K R n 563 ls (vr x :: st) σ k) := exS_step.trans rfl
set_option maxRecDepth 100000 in
theorem ev_L_law_563 {ct : Nat → Bool} {K : Kt} {R : Option AV → Hp → Prop} {n : Nat} {ls : List (Option AV)} {st : List AV} {σ : Hp} {k : Nat × Nat} : xe_L_law ct K R (n + 1) 563 ls st σ k = (lI ls 4 fun x => xk_L_law ct K R n 565 ls (vi x :: st) σ k) := exS_step.trans rfl
set_option maxRecDepth 100000 in
theorem ev_L_law_565 {ct : Nat → Bool} {K : Kt} {R : Option AV → Hp → Prop} {n : Nat} {ls : List (Option AV)} {st : List AV} {σ : Hp} {k : Nat × Nat} : xe_L_law ct K R (n + 1) 565 ls st σ k = (xk_L_law ct K R n 566 ls (vi (2) :: st) σ k) := exS_step.trans rfl
set_option maxRecDepth 100000 in
theorem ev_L_law_566 {ct : Nat → Bool} {K : Kt} {R : Option AV → Hp → Prop} {n : Nat} {ls : List (Option AV)} {st : List AV} {σ : Hp} {k : Nat × Nat} : xe_L_law ct K R (n + 1) 566 ls st σ k = (oI st fun y st => oI st fun x st => xk_L_law ct K R n 567 ls (vi (x + y) :: st) σ k) := exS_step.trans rfl
set_option maxRecDepth 100000 in
theorem ev_L_law_567 {ct : Nat → Bool} {K : Kt} {R : Option AV → Hp → Prop} {n : Nat} {ls : List (Option AV)} {st : List AV} {σ : Hp} {k : Nat × Nat} : xe_L_law ct K R (n + 1) 567 ls st σ k = (oI st fun j st => oR st fun x st => (kd σ x = 101 ∨ kd σ x = 108) ∧ (0 ≤ j ∧ j < ln σ x) ∧ xk_L_law ct K R n 568 ls (vi (aI σ x j) :: st) σ k) := exS_step.trans rfl
set_option maxRecDepth 100000 in
theorem ev_L_law_568 {ct : Nat → Bool} {K : Kt} {R : Option AV → Hp → Prop} {n : Nat} {ls : List (Option AV)} {st : List AV} {σ : Hp} {k : Nat × Nat} : xe_L_law ct K R (n + 1) 568 ls st σ k = (popN 3 st [] fun av rest => (catS rest ≤ 8 ∧ 3 < 45 ∧ k.1 + 0 ≤ 601024 ∧ k.2 + 0 ≤ 7293034) ∧ (sp_X12_house) av σ fun v σ' => xk_L_law ct K R n 571 ls (v.toList ++ rest) σ' (k.1 + 0, k.2 + 0)) := exS_step.trans rfl
set_option maxRecDepth 100000 in
theorem ev_L_law_571 {ct : Nat → Bool} {K : Kt} {R : Option AV → Hp → Prop} {n : Nat} {ls : List (Option AV)} {st : List AV} {σ : Hp} {k : Nat × Nat} : xe_L_law ct K R (n + 1) 571 ls st σ k = (oI st fun y st => oI st fun x st => (wI x = wI y → xk_L_law ct K R n 1333 ls st σ k) ∧ (¬ (wI x = wI y) → xk_L_law ct K R n 574 ls st σ k)) := exS_step.trans rfl
set_option maxRecDepth 100000 in
theorem ev_L_law_574 {ct : Nat → Bool} {K : Kt} {R : Option AV → Hp → Prop} {n : Nat} {ls : List (Option AV)} {st : List AV} {σ : Hp} {k : Nat × Nat} : xe_L_law ct K R (n + 1) 574 ls st σ k = (xk_L_law ct K R n 575 ls (vi (0) :: st) σ k) := exS_step.trans rfl
set_option maxRecDepth 100000 in
theorem ev_L_law_575 {ct : Nat → Bool} {K : Kt} {R : Option AV → Hp → Prop} {n : Nat} {ls : List (Option AV)} {st : List AV} {σ : Hp} {k : Nat × Nat} : xe_L_law ct K R (n + 1) 575 ls st σ k = (oI st fun x st => st = [] ∧ (x = 0 ∨ x = 1) ∧ R (some (vi x)) σ) := exS_step.trans rfl
set_option maxRecDepth 100000 in
theorem ev_L_law_576 {ct : Nat → Bool} {K : Kt} {R : Option AV → Hp → Prop} {n : Nat} {ls : List (Option AV)} {st : List AV} {σ : Hp} {k : Nat × Nat} : xe_L_law ct K R (n + 1) 576 ls st σ k = (lR ls 1 fun x => xk_L_law ct K R n 577 ls (vr x :: st) σ k) := exS_step.trans rfl
set_option maxRecDepth 100000 in
theorem ev_L_law_577 {ct : Nat → Bool} {K : Kt} {R : Option AV → Hp → Prop} {n : Nat} {ls : List (Option AV)} {st : List AV} {σ : Hp} {k : Nat × Nat} : xe_L_law ct K R (n + 1) 577 ls st σ k = (lR ls 0 fun x => xk_L_law ct K R n 578 ls (vr x :: st) σ k) := exS_step.trans rfl
set_option maxRecDepth 100000 in
theorem ev_L_law_578 {ct : Nat → Bool} {K : Kt} {R : Option AV → Hp → Prop} {n : Nat} {ls : List (Option AV)} {st : List AV} {σ : Hp} {k : Nat × Nat} : xe_L_law ct K R (n + 1) 578 ls st σ k = (lI ls 4 fun x => xk_L_law ct K R n 580 ls (vi x :: st) σ k) := exS_step.trans rfl
set_option maxRecDepth 100000 in
theorem ev_L_law_580 {ct : Nat → Bool} {K : Kt} {R : Option AV → Hp → Prop} {n : Nat} {ls : List (Option AV)} {st : List AV} {σ : Hp} {k : Nat × Nat} : xe_L_law ct K R (n + 1) 580 ls st σ k = (xk_L_law ct K R n 581 ls (vi (1) :: st) σ k) := exS_step.trans rfl
set_option maxRecDepth 100000 in
theorem ev_L_law_581 {ct : Nat → Bool} {K : Kt} {R : Option AV → Hp → Prop} {n : Nat} {ls : List (Option AV)} {st : List AV} {σ : Hp} {k : Nat × Nat} : xe_L_law ct K R (n + 1) 581 ls st σ k = (oI st fun y st => oI st fun x st => xk_L_law ct K R n 582 ls (vi (x + y) :: st) σ k) := exS_step.trans rfl
set_option maxRecDepth 100000 in
theorem ev_L_law_582 {ct : Nat → Bool} {K : Kt} {R : Option AV → Hp → Prop} {n : Nat} {ls : List (Option AV)} {st : List AV} {σ : Hp} {k : Nat × Nat} : xe_L_law ct K R (n + 1) 582 ls st σ k = (oI st fun j st => oR st fun x st => (kd σ x = 101 ∨ kd σ x = 108) ∧ (0 ≤ j ∧ j < ln σ x) ∧ xk_L_law ct K R n 583 ls (vi (aI σ x j) :: st) σ k) := exS_step.trans rfl
set_option maxRecDepth 100000 in
theorem ev_L_law_583 {ct : Nat → Bool} {K : Kt} {R : Option AV → Hp → Prop} {n : Nat} {ls : List (Option AV)} {st : List AV} {σ : Hp} {k : Nat × Nat} : xe_L_law ct K R (n + 1) 583 ls st σ k = (lR ls 0 fun x => xk_L_law ct K R n 584 ls (vr x :: st) σ k) := exS_step.trans rfl
set_option maxRecDepth 100000 in
theorem ev_L_law_584 {ct : Nat → Bool} {K : Kt} {R : Option AV → Hp → Prop} {n : Nat} {ls : List (Option AV)} {st : List AV} {σ : Hp} {k : Nat × Nat} : xe_L_law ct K R (n + 1) 584 ls st σ k = (lI ls 4 fun x => xk_L_law ct K R n 586 ls (vi x :: st) σ k) := exS_step.trans rfl
set_option maxRecDepth 100000 in
theorem ev_L_law_586 {ct : Nat → Bool} {K : Kt} {R : Option AV → Hp → Prop} {n : Nat} {ls : List (Option AV)} {st : List AV} {σ : Hp} {k : Nat × Nat} : xe_L_law ct K R (n + 1) 586 ls st σ k = (xk_L_law ct K R n 587 ls (vi (2) :: st) σ k) := exS_step.trans rfl
set_option maxRecDepth 100000 in
theorem ev_L_law_587 {ct : Nat → Bool} {K : Kt} {R : Option AV → Hp → Prop} {n : Nat} {ls : List (Option AV)} {st : List AV} {σ : Hp} {k : Nat × Nat} : xe_L_law ct K R (n + 1) 587 ls st σ k = (oI st fun y st => oI st fun x st => xk_L_law ct K R n 588 ls (vi (x + y) :: st) σ k) := exS_step.trans rfl
set_option maxRecDepth 100000 in
theorem ev_L_law_588 {ct : Nat → Bool} {K : Kt} {R : Option AV → Hp → Prop} {n : Nat} {ls : List (Option AV)} {st : List AV} {σ : Hp} {k : Nat × Nat} : xe_L_law ct K R (n + 1) 588 ls st σ k = (oI st fun j st => oR st fun x st => (kd σ x = 101 ∨ kd σ x = 108) ∧ (0 ≤ j ∧ j < ln σ x) ∧ xk_L_law ct K R n 589 ls (vi (aI σ x j) :: st) σ k) := exS_step.trans rfl
set_option maxRecDepth 100000 in
theorem ev_L_law_589 {ct : Nat → Bool} {K : Kt} {R : Option AV → Hp → Prop} {n : Nat} {ls : List (Option AV)} {st : List AV} {σ : Hp} {k : Nat × Nat} : xe_L_law ct K R (n + 1) 589 ls st σ k = (popN 3 st [] fun av rest => (catS rest ≤ 8 ∧ 9 < 45 ∧ k.1 + 2 ≤ 601024 ∧ k.2 + 155 ≤ 7293034) ∧ (sp_X11_company) av σ fun v σ' => xk_L_law ct K R n 592 ls (v.toList ++ rest) σ' (k.1 + 2, k.2 + 155)) := exS_step.trans rfl
set_option maxRecDepth 100000 in
theorem ev_L_law_592 {ct : Nat → Bool} {K : Kt} {R : Option AV → Hp → Prop} {n : Nat} {ls : List (Option AV)} {st : List AV} {σ : Hp} {k : Nat × Nat} : xe_L_law ct K R (n + 1) 592 ls st σ k = (lR ls 2 fun x => xk_L_law ct K R n 593 ls (vr x :: st) σ k) := exS_step.trans rfl
set_option maxRecDepth 100000 in
theorem ev_L_law_593 {ct : Nat → Bool} {K : Kt} {R : Option AV → Hp → Prop} {n : Nat} {ls : List (Option AV)} {st : List AV} {σ : Hp} {k : Nat × Nat} : xe_L_law ct K R (n + 1) 593 ls st σ k = (lR ls 0 fun x => xk_L_law ct K R n 594 ls (vr x :: st) σ k) := exS_step.trans rfl
set_option maxRecDepth 100000 in
theorem ev_L_law_594 {ct : Nat → Bool} {K : Kt} {R : Option AV → Hp → Prop} {n : Nat} {ls : List (Option AV)} {st : List AV} {σ : Hp} {k : Nat × Nat} : xe_L_law ct K R (n + 1) 594 ls st σ k = (lI ls 4 fun x => xk_L_law ct K R n 596 ls (vi x :: st) σ k) := exS_step.trans rfl
set_option maxRecDepth 100000 in
theorem ev_L_law_596 {ct : Nat → Bool} {K : Kt} {R : Option AV → Hp → Prop} {n : Nat} {ls : List (Option AV)} {st : List AV} {σ : Hp} {k : Nat × Nat} : xe_L_law ct K R (n + 1) 596 ls st σ k = (xk_L_law ct K R n 597 ls (vi (1) :: st) σ k) := exS_step.trans rfl
set_option maxRecDepth 100000 in
theorem ev_L_law_597 {ct : Nat → Bool} {K : Kt} {R : Option AV → Hp → Prop} {n : Nat} {ls : List (Option AV)} {st : List AV} {σ : Hp} {k : Nat × Nat} : xe_L_law ct K R (n + 1) 597 ls st σ k = (oI st fun y st => oI st fun x st => xk_L_law ct K R n 598 ls (vi (x + y) :: st) σ k) := exS_step.trans rfl
set_option maxRecDepth 100000 in
theorem ev_L_law_598 {ct : Nat → Bool} {K : Kt} {R : Option AV → Hp → Prop} {n : Nat} {ls : List (Option AV)} {st : List AV} {σ : Hp} {k : Nat × Nat} : xe_L_law ct K R (n + 1) 598 ls st σ k = (oI st fun j st => oR st fun x st => (kd σ x = 101 ∨ kd σ x = 108) ∧ (0 ≤ j ∧ j < ln σ x) ∧ xk_L_law ct K R n 599 ls (vi (aI σ x j) :: st) σ k) := exS_step.trans rfl
set_option maxRecDepth 100000 in
theorem ev_L_law_599 {ct : Nat → Bool} {K : Kt} {R : Option AV → Hp → Prop} {n : Nat} {ls : List (Option AV)} {st : List AV} {σ : Hp} {k : Nat × Nat} : xe_L_law ct K R (n + 1) 599 ls st σ k = (lR ls 0 fun x => xk_L_law ct K R n 600 ls (vr x :: st) σ k) := exS_step.trans rfl
set_option maxRecDepth 100000 in
theorem ev_L_law_600 {ct : Nat → Bool} {K : Kt} {R : Option AV → Hp → Prop} {n : Nat} {ls : List (Option AV)} {st : List AV} {σ : Hp} {k : Nat × Nat} : xe_L_law ct K R (n + 1) 600 ls st σ k = (lI ls 4 fun x => xk_L_law ct K R n 602 ls (vi x :: st) σ k) := exS_step.trans rfl
set_option maxRecDepth 100000 in
theorem ev_L_law_602 {ct : Nat → Bool} {K : Kt} {R : Option AV → Hp → Prop} {n : Nat} {ls : List (Option AV)} {st : List AV} {σ : Hp} {k : Nat × Nat} : xe_L_law ct K R (n + 1) 602 ls st σ k = (xk_L_law ct K R n 603 ls (vi (2) :: st) σ k) := exS_step.trans rfl
set_option maxRecDepth 100000 in
theorem ev_L_law_603 {ct : Nat → Bool} {K : Kt} {R : Option AV → Hp → Prop} {n : Nat} {ls : List (Option AV)} {st : List AV} {σ : Hp} {k : Nat × Nat} : xe_L_law ct K R (n + 1) 603 ls st σ k = (oI st fun y st => oI st fun x st => xk_L_law ct K R n 604 ls (vi (x + y) :: st) σ k) := exS_step.trans rfl
set_option maxRecDepth 100000 in
theorem ev_L_law_604 {ct : Nat → Bool} {K : Kt} {R : Option AV → Hp → Prop} {n : Nat} {ls : List (Option AV)} {st : List AV} {σ : Hp} {k : Nat × Nat} : xe_L_law ct K R (n + 1) 604 ls st σ k = (oI st fun j st => oR st fun x st => (kd σ x = 101 ∨ kd σ x = 108) ∧ (0 ≤ j ∧ j < ln σ x) ∧ xk_L_law ct K R n 605 ls (vi (aI σ x j) :: st) σ k) := exS_step.trans rfl
set_option maxRecDepth 100000 in
theorem ev_L_law_605 {ct : Nat → Bool} {K : Kt} {R : Option AV → Hp → Prop} {n : Nat} {ls : List (Option AV)} {st : List AV} {σ : Hp} {k : Nat × Nat} : xe_L_law ct K R (n + 1) 605 ls st σ k = (popN 3 st [] fun av rest => (catS rest ≤ 8 ∧ 3 < 45 ∧ k.1 + 0 ≤ 601024 ∧ k.2 + 0 ≤ 7293034) ∧ (sp_X12_company) av σ fun v σ' => xk_L_law ct K R n 608 ls (v.toList ++ rest) σ' (k.1 + 0, k.2 + 0)) := exS_step.trans rfl
set_option maxRecDepth 100000 in
theorem ev_L_law_608 {ct : Nat → Bool} {K : Kt} {R : Option AV → Hp → Prop} {n : Nat} {ls : List (Option AV)} {st : List AV} {σ : Hp} {k : Nat × Nat} : xe_L_law ct K R (n + 1) 608 ls st σ k = (oI st fun y st => oI st fun x st => (wI x = wI y → xk_L_law ct K R n 1333 ls st σ k) ∧ (¬ (wI x = wI y) → xk_L_law ct K R n 611 ls st σ k)) := exS_step.trans rfl
set_option maxRecDepth 100000 in
theorem ev_L_law_611 {ct : Nat → Bool} {K : Kt} {R : Option AV → Hp → Prop} {n : Nat} {ls : List (Option AV)} {st : List AV} {σ : Hp} {k : Nat × Nat} : xe_L_law ct K R (n + 1) 611 ls st σ k = (xk_L_law ct K R n 612 ls (vi (0) :: st) σ k) := exS_step.trans rfl
set_option maxRecDepth 100000 in
theorem ev_L_law_612 {ct : Nat → Bool} {K : Kt} {R : Option AV → Hp → Prop} {n : Nat} {ls : List (Option AV)} {st : List AV} {σ : Hp} {k : Nat × Nat} : xe_L_law ct K R (n + 1) 612 ls st σ k = (oI st fun x st => st = [] ∧ (x = 0 ∨ x = 1) ∧ R (some (vi x)) σ) := exS_step.trans rfl
set_option maxRecDepth 100000 in
theorem ev_L_law_613 {ct : Nat → Bool} {K : Kt} {R : Option AV → Hp → Prop} {n : Nat} {ls : List (Option AV)} {st : List AV} {σ : Hp} {k : Nat × Nat} : xe_L_law ct K R (n + 1) 613 ls st σ k = (lR ls 1 fun x => xk_L_law ct K R n 614 ls (vr x :: st) σ k) := exS_step.trans rfl
set_option maxRecDepth 100000 in
theorem ev_L_law_614 {ct : Nat → Bool} {K : Kt} {R : Option AV → Hp → Prop} {n : Nat} {ls : List (Option AV)} {st : List AV} {σ : Hp} {k : Nat × Nat} : xe_L_law ct K R (n + 1) 614 ls st σ k = (lR ls 0 fun x => xk_L_law ct K R n 615 ls (vr x :: st) σ k) := exS_step.trans rfl
set_option maxRecDepth 100000 in
theorem ev_L_law_615 {ct : Nat → Bool} {K : Kt} {R : Option AV → Hp → Prop} {n : Nat} {ls : List (Option AV)} {st : List AV} {σ : Hp} {k : Nat × Nat} : xe_L_law ct K R (n + 1) 615 ls st σ k = (lI ls 4 fun x => xk_L_law ct K R n 617 ls (vi x :: st) σ k) := exS_step.trans rfl
set_option maxRecDepth 100000 in
theorem ev_L_law_617 {ct : Nat → Bool} {K : Kt} {R : Option AV → Hp → Prop} {n : Nat} {ls : List (Option AV)} {st : List AV} {σ : Hp} {k : Nat × Nat} : xe_L_law ct K R (n + 1) 617 ls st σ k = (xk_L_law ct K R n 618 ls (vi (1) :: st) σ k) := exS_step.trans rfl
set_option maxRecDepth 100000 in
theorem ev_L_law_618 {ct : Nat → Bool} {K : Kt} {R : Option AV → Hp → Prop} {n : Nat} {ls : List (Option AV)} {st : List AV} {σ : Hp} {k : Nat × Nat} : xe_L_law ct K R (n + 1) 618 ls st σ k = (oI st fun y st => oI st fun x st => xk_L_law ct K R n 619 ls (vi (x + y) :: st) σ k) := exS_step.trans rfl
set_option maxRecDepth 100000 in
theorem ev_L_law_619 {ct : Nat → Bool} {K : Kt} {R : Option AV → Hp → Prop} {n : Nat} {ls : List (Option AV)} {st : List AV} {σ : Hp} {k : Nat × Nat} : xe_L_law ct K R (n + 1) 619 ls st σ k = (oI st fun j st => oR st fun x st => (kd σ x = 101 ∨ kd σ x = 108) ∧ (0 ≤ j ∧ j < ln σ x) ∧ xk_L_law ct K R n 620 ls (vi (aI σ x j) :: st) σ k) := exS_step.trans rfl
set_option maxRecDepth 100000 in
theorem ev_L_law_620 {ct : Nat → Bool} {K : Kt} {R : Option AV → Hp → Prop} {n : Nat} {ls : List (Option AV)} {st : List AV} {σ : Hp} {k : Nat × Nat} : xe_L_law ct K R (n + 1) 620 ls st σ k = (lR ls 0 fun x => xk_L_law ct K R n 621 ls (vr x :: st) σ k) := exS_step.trans rfl
set_option maxRecDepth 100000 in
theorem ev_L_law_621 {ct : Nat → Bool} {K : Kt} {R : Option AV → Hp → Prop} {n : Nat} {ls : List (Option AV)} {st : List AV} {σ : Hp} {k : Nat × Nat} : xe_L_law ct K R (n + 1) 621 ls st σ k = (lI ls 4 fun x => xk_L_law ct K R n 623 ls (vi x :: st) σ k) := exS_step.trans rfl
set_option maxRecDepth 100000 in
theorem ev_L_law_623 {ct : Nat → Bool} {K : Kt} {R : Option AV → Hp → Prop} {n : Nat} {ls : List (Option AV)} {st : List AV} {σ : Hp} {k : Nat × Nat} : xe_L_law ct K R (n + 1) 623 ls st σ k = (xk_L_law ct K R n 624 ls (vi (2) :: st) σ k) := exS_step.trans rfl
set_option maxRecDepth 100000 in
theorem ev_L_law_624 {ct : Nat → Bool} {K : Kt} {R : Option AV → Hp → Prop} {n : Nat} {ls : List (Option AV)} {st : List AV} {σ : Hp} {k : Nat × Nat} : xe_L_law ct K R (n + 1) 624 ls st σ k = (oI st fun y st => oI st fun x st => xk_L_law ct K R n 625 ls (vi (x + y) :: st) σ k) := exS_step.trans rfl
set_option maxRecDepth 100000 in
theorem ev_L_law_625 {ct : Nat → Bool} {K : Kt} {R : Option AV → Hp → Prop} {n : Nat} {ls : List (Option AV)} {st : List AV} {σ : Hp} {k : Nat × Nat} : xe_L_law ct K R (n + 1) 625 ls st σ k = (oI st fun j st => oR st fun x st => (kd σ x = 101 ∨ kd σ x = 108) ∧ (0 ≤ j ∧ j < ln σ x) ∧ xk_L_law ct K R n 626 ls (vi (aI σ x j) :: st) σ k) := exS_step.trans rfl
set_option maxRecDepth 100000 in
theorem ev_L_law_626 {ct : Nat → Bool} {K : Kt} {R : Option AV → Hp → Prop} {n : Nat} {ls : List (Option AV)} {st : List AV} {σ : Hp} {k : Nat × Nat} : xe_L_law ct K R (n + 1) 626 ls st σ k = (popN 3 st [] fun av rest => (catS rest ≤ 8 ∧ 1 < 45 ∧ k.1 + 0 ≤ 601024 ∧ k.2 + 0 ≤ 7293034) ∧ (sp_X11_pace) av σ fun v σ' => xk_L_law ct K R n 629 ls (v.toList ++ rest) σ' (k.1 + 0, k.2 + 0)) := exS_step.trans rfl
set_option maxRecDepth 100000 in
theorem ev_L_law_629 {ct : Nat → Bool} {K : Kt} {R : Option AV → Hp → Prop} {n : Nat} {ls : List (Option AV)} {st : List AV} {σ : Hp} {k : Nat × Nat} : xe_L_law ct K R (n + 1) 629 ls st σ k = (lR ls 2 fun x => xk_L_law ct K R n 630 ls (vr x :: st) σ k) := exS_step.trans rfl
set_option maxRecDepth 100000 in
theorem ev_L_law_630 {ct : Nat → Bool} {K : Kt} {R : Option AV → Hp → Prop} {n : Nat} {ls : List (Option AV)} {st : List AV} {σ : Hp} {k : Nat × Nat} : xe_L_law ct K R (n + 1) 630 ls st σ k = (lR ls 0 fun x => xk_L_law ct K R n 631 ls (vr x :: st) σ k) := exS_step.trans rfl
set_option maxRecDepth 100000 in
theorem ev_L_law_631 {ct : Nat → Bool} {K : Kt} {R : Option AV → Hp → Prop} {n : Nat} {ls : List (Option AV)} {st : List AV} {σ : Hp} {k : Nat × Nat} : xe_L_law ct K R (n + 1) 631 ls st σ k = (lI ls 4 fun x => xk_L_law ct K R n 633 ls (vi x :: st) σ k) := exS_step.trans rfl
set_option maxRecDepth 100000 in
theorem ev_L_law_633 {ct : Nat → Bool} {K : Kt} {R : Option AV → Hp → Prop} {n : Nat} {ls : List (Option AV)} {st : List AV} {σ : Hp} {k : Nat × Nat} : xe_L_law ct K R (n + 1) 633 ls st σ k = (xk_L_law ct K R n 634 ls (vi (1) :: st) σ k) := exS_step.trans rfl
set_option maxRecDepth 100000 in
theorem ev_L_law_634 {ct : Nat → Bool} {K : Kt} {R : Option AV → Hp → Prop} {n : Nat} {ls : List (Option AV)} {st : List AV} {σ : Hp} {k : Nat × Nat} : xe_L_law ct K R (n + 1) 634 ls st σ k = (oI st fun y st => oI st fun x st => xk_L_law ct K R n 635 ls (vi (x + y) :: st) σ k) := exS_step.trans rfl
set_option maxRecDepth 100000 in
theorem ev_L_law_635 {ct : Nat → Bool} {K : Kt} {R : Option AV → Hp → Prop} {n : Nat} {ls : List (Option AV)} {st : List AV} {σ : Hp} {k : Nat × Nat} : xe_L_law ct K R (n + 1) 635 ls st σ k = (oI st fun j st => oR st fun x st => (kd σ x = 101 ∨ kd σ x = 108) ∧ (0 ≤ j ∧ j < ln σ x) ∧ xk_L_law ct K R n 636 ls (vi (aI σ x j) :: st) σ k) := exS_step.trans rfl
set_option maxRecDepth 100000 in
theorem ev_L_law_636 {ct : Nat → Bool} {K : Kt} {R : Option AV → Hp → Prop} {n : Nat} {ls : List (Option AV)} {st : List AV} {σ : Hp} {k : Nat × Nat} : xe_L_law ct K R (n + 1) 636 ls st σ k = (lR ls 0 fun x => xk_L_law ct K R n 637 ls (vr x :: st) σ k) := exS_step.trans rfl
set_option maxRecDepth 100000 in
theorem ev_L_law_637 {ct : Nat → Bool} {K : Kt} {R : Option AV → Hp → Prop} {n : Nat} {ls : List (Option AV)} {st : List AV} {σ : Hp} {k : Nat × Nat} : xe_L_law ct K R (n + 1) 637 ls st σ k = (lI ls 4 fun x => xk_L_law ct K R n 639 ls (vi x :: st) σ k) := exS_step.trans rfl
set_option maxRecDepth 100000 in
theorem ev_L_law_639 {ct : Nat → Bool} {K : Kt} {R : Option AV → Hp → Prop} {n : Nat} {ls : List (Option AV)} {st : List AV} {σ : Hp} {k : Nat × Nat} : xe_L_law ct K R (n + 1) 639 ls st σ k = (xk_L_law ct K R n 640 ls (vi (2) :: st) σ k) := exS_step.trans rfl
set_option maxRecDepth 100000 in
theorem ev_L_law_640 {ct : Nat → Bool} {K : Kt} {R : Option AV → Hp → Prop} {n : Nat} {ls : List (Option AV)} {st : List AV} {σ : Hp} {k : Nat × Nat} : xe_L_law ct K R (n + 1) 640 ls st σ k = (oI st fun y st => oI st fun x st => xk_L_law ct K R n 641 ls (vi (x + y) :: st) σ k) := exS_step.trans rfl
set_option maxRecDepth 100000 in
theorem ev_L_law_641 {ct : Nat → Bool} {K : Kt} {R : Option AV → Hp → Prop} {n : Nat} {ls : List (Option AV)} {st : List AV} {σ : Hp} {k : Nat × Nat} : xe_L_law ct K R (n + 1) 641 ls st σ k = (oI st fun j st => oR st fun x st => (kd σ x = 101 ∨ kd σ x = 108) ∧ (0 ≤ j ∧ j < ln σ x) ∧ xk_L_law ct K R n 642 ls (vi (aI σ x j) :: st) σ k) := exS_step.trans rfl
set_option maxRecDepth 100000 in
theorem ev_L_law_642 {ct : Nat → Bool} {K : Kt} {R : Option AV → Hp → Prop} {n : Nat} {ls : List (Option AV)} {st : List AV} {σ : Hp} {k : Nat × Nat} : xe_L_law ct K R (n + 1) 642 ls st σ k = (popN 3 st [] fun av rest => (catS rest ≤ 8 ∧ 3 < 45 ∧ k.1 + 0 ≤ 601024 ∧ k.2 + 0 ≤ 7293034) ∧ (sp_X12_pace) av σ fun v σ' => xk_L_law ct K R n 645 ls (v.toList ++ rest) σ' (k.1 + 0, k.2 + 0)) := exS_step.trans rfl
set_option maxRecDepth 100000 in
theorem ev_L_law_645 {ct : Nat → Bool} {K : Kt} {R : Option AV → Hp → Prop} {n : Nat} {ls : List (Option AV)} {st : List AV} {σ : Hp} {k : Nat × Nat} : xe_L_law ct K R (n + 1) 645 ls st σ k = (oI st fun y st => oI st fun x st => (wI x = wI y → xk_L_law ct K R n 1333 ls st σ k) ∧ (¬ (wI x = wI y) → xk_L_law ct K R n 648 ls st σ k)) := exS_step.trans rfl
set_option maxRecDepth 100000 in
theorem ev_L_law_648 {ct : Nat → Bool} {K : Kt} {R : Option AV → Hp → Prop} {n : Nat} {ls : List (Option AV)} {st : List AV} {σ : Hp} {k : Nat × Nat} : xe_L_law ct K R (n + 1) 648 ls st σ k = (xk_L_law ct K R n 649 ls (vi (0) :: st) σ k) := exS_step.trans rfl
set_option maxRecDepth 100000 in
theorem ev_L_law_649 {ct : Nat → Bool} {K : Kt} {R : Option AV → Hp → Prop} {n : Nat} {ls : List (Option AV)} {st : List AV} {σ : Hp} {k : Nat × Nat} : xe_L_law ct K R (n + 1) 649 ls st σ k = (oI st fun x st => st = [] ∧ (x = 0 ∨ x = 1) ∧ R (some (vi x)) σ) := exS_step.trans rfl
set_option maxRecDepth 100000 in
theorem ev_L_law_650 {ct : Nat → Bool} {K : Kt} {R : Option AV → Hp → Prop} {n : Nat} {ls : List (Option AV)} {st : List AV} {σ : Hp} {k : Nat × Nat} : xe_L_law ct K R (n + 1) 650 ls st σ k = (lR ls 1 fun x => xk_L_law ct K R n 651 ls (vr x :: st) σ k) := exS_step.trans rfl
set_option maxRecDepth 100000 in
theorem ev_L_law_651 {ct : Nat → Bool} {K : Kt} {R : Option AV → Hp → Prop} {n : Nat} {ls : List (Option AV)} {st : List AV} {σ : Hp} {k : Nat × Nat} : xe_L_law ct K R (n + 1) 651 ls st σ k = (lR ls 0 fun x => xk_L_law ct K R n 652 ls (vr x :: st) σ k) := exS_step.trans rfl
set_option maxRecDepth 100000 in
theorem ev_L_law_652 {ct : Nat → Bool} {K : Kt} {R : Option AV → Hp → Prop} {n : Nat} {ls : List (Option AV)} {st : List AV} {σ : Hp} {k : Nat × Nat} : xe_L_law ct K R (n + 1) 652 ls st σ k = (lI ls 4 fun x => xk_L_law ct K R n 654 ls (vi x :: st) σ k) := exS_step.trans rfl
set_option maxRecDepth 100000 in
theorem ev_L_law_654 {ct : Nat → Bool} {K : Kt} {R : Option AV → Hp → Prop} {n : Nat} {ls : List (Option AV)} {st : List AV} {σ : Hp} {k : Nat × Nat} : xe_L_law ct K R (n + 1) 654 ls st σ k = (xk_L_law ct K R n 655 ls (vi (1) :: st) σ k) := exS_step.trans rfl
set_option maxRecDepth 100000 in
theorem ev_L_law_655 {ct : Nat → Bool} {K : Kt} {R : Option AV → Hp → Prop} {n : Nat} {ls : List (Option AV)} {st : List AV} {σ : Hp} {k : Nat × Nat} : xe_L_law ct K R (n + 1) 655 ls st σ k = (oI st fun y st => oI st fun x st => xk_L_law ct K R n 656 ls (vi (x + y) :: st) σ k) := exS_step.trans rfl
set_option maxRecDepth 100000 in
theorem ev_L_law_656 {ct : Nat → Bool} {K : Kt} {R : Option AV → Hp → Prop} {n : Nat} {ls : List (Option AV)} {st : List AV} {σ : Hp} {k : Nat × Nat} : xe_L_law ct K R (n + 1) 656 ls st σ k = (oI st fun j st => oR st fun x st => (kd σ x = 101 ∨ kd σ x = 108) ∧ (0 ≤ j ∧ j < ln σ x) ∧ xk_L_law ct K R n 657 ls (vi (aI σ x j) :: st) σ k) := exS_step.trans rfl
set_option maxRecDepth 100000 in
theorem ev_L_law_657 {ct : Nat → Bool} {K : Kt} {R : Option AV → Hp → Prop} {n : Nat} {ls : List (Option AV)} {st : List AV} {σ : Hp} {k : Nat × Nat} : xe_L_law ct K R (n + 1) 657 ls st σ k = (oI st fun x st => xk_L_law ct K R n 658 ls (vl (BitVec.ofInt 64 (wI x)) :: st) σ k) := exS_step.trans rfl
set_option maxRecDepth 100000 in
theorem ev_L_law_658 {ct : Nat → Bool} {K : Kt} {R : Option AV → Hp → Prop} {n : Nat} {ls : List (Option AV)} {st : List AV} {σ : Hp} {k : Nat × Nat} : xe_L_law ct K R (n + 1) 658 ls st σ k = (xk_L_law ct K R n 660 ls (vi (32) :: st) σ k) := exS_step.trans rfl
set_option maxRecDepth 100000 in
theorem ev_L_law_660 {ct : Nat → Bool} {K : Kt} {R : Option AV → Hp → Prop} {n : Nat} {ls : List (Option AV)} {st : List AV} {σ : Hp} {k : Nat × Nat} : xe_L_law ct K R (n + 1) 660 ls st σ k = (oI st fun y st => oL st fun x st => xk_L_law ct K R n 661 ls (vl (x <<< (y % 64).toNat) :: st) σ k) := exS_step.trans rfl
set_option maxRecDepth 100000 in
theorem ev_L_law_661 {ct : Nat → Bool} {K : Kt} {R : Option AV → Hp → Prop} {n : Nat} {ls : List (Option AV)} {st : List AV} {σ : Hp} {k : Nat × Nat} : xe_L_law ct K R (n + 1) 661 ls st σ k = (lR ls 0 fun x => xk_L_law ct K R n 662 ls (vr x :: st) σ k) := exS_step.trans rfl
set_option maxRecDepth 100000 in
theorem ev_L_law_662 {ct : Nat → Bool} {K : Kt} {R : Option AV → Hp → Prop} {n : Nat} {ls : List (Option AV)} {st : List AV} {σ : Hp} {k : Nat × Nat} : xe_L_law ct K R (n + 1) 662 ls st σ k = (lI ls 4 fun x => xk_L_law ct K R n 664 ls (vi x :: st) σ k) := exS_step.trans rfl
set_option maxRecDepth 100000 in
theorem ev_L_law_664 {ct : Nat → Bool} {K : Kt} {R : Option AV → Hp → Prop} {n : Nat} {ls : List (Option AV)} {st : List AV} {σ : Hp} {k : Nat × Nat} : xe_L_law ct K R (n + 1) 664 ls st σ k = (xk_L_law ct K R n 665 ls (vi (2) :: st) σ k) := exS_step.trans rfl
set_option maxRecDepth 100000 in
theorem ev_L_law_665 {ct : Nat → Bool} {K : Kt} {R : Option AV → Hp → Prop} {n : Nat} {ls : List (Option AV)} {st : List AV} {σ : Hp} {k : Nat × Nat} : xe_L_law ct K R (n + 1) 665 ls st σ k = (oI st fun y st => oI st fun x st => xk_L_law ct K R n 666 ls (vi (x + y) :: st) σ k) := exS_step.trans rfl
set_option maxRecDepth 100000 in
theorem ev_L_law_666 {ct : Nat → Bool} {K : Kt} {R : Option AV → Hp → Prop} {n : Nat} {ls : List (Option AV)} {st : List AV} {σ : Hp} {k : Nat × Nat} : xe_L_law ct K R (n + 1) 666 ls st σ k = (oI st fun j st => oR st fun x st => (kd σ x = 101 ∨ kd σ x = 108) ∧ (0 ≤ j ∧ j < ln σ x) ∧ xk_L_law ct K R n 667 ls (vi (aI σ x j) :: st) σ k) := exS_step.trans rfl
set_option maxRecDepth 100000 in
theorem ev_L_law_667 {ct : Nat → Bool} {K : Kt} {R : Option AV → Hp → Prop} {n : Nat} {ls : List (Option AV)} {st : List AV} {σ : Hp} {k : Nat × Nat} : xe_L_law ct K R (n + 1) 667 ls st σ k = (oI st fun x st => xk_L_law ct K R n 668 ls (vl (BitVec.ofInt 64 (wI x)) :: st) σ k) := exS_step.trans rfl
set_option maxRecDepth 100000 in
theorem ev_L_law_668 {ct : Nat → Bool} {K : Kt} {R : Option AV → Hp → Prop} {n : Nat} {ls : List (Option AV)} {st : List AV} {σ : Hp} {k : Nat × Nat} : xe_L_law ct K R (n + 1) 668 ls st σ k = (xk_L_law ct K R n 671 ls (vl (BitVec.ofInt 64 (4294967295)) :: st) σ k) := exS_step.trans rfl
set_option maxRecDepth 100000 in
theorem ev_L_law_671 {ct : Nat → Bool} {K : Kt} {R : Option AV → Hp → Prop} {n : Nat} {ls : List (Option AV)} {st : List AV} {σ : Hp} {k : Nat × Nat} : xe_L_law ct K R (n + 1) 671 ls st σ k = (oL st fun y st => oL st fun x st => xk_L_law ct K R n 672 ls (vl (x &&& y) :: st) σ k) := exS_step.trans rfl
set_option maxRecDepth 100000 in
theorem ev_L_law_672 {ct : Nat → Bool} {K : Kt} {R : Option AV → Hp → Prop} {n : Nat} {ls : List (Option AV)} {st : List AV} {σ : Hp} {k : Nat × Nat} : xe_L_law ct K R (n + 1) 672 ls st σ k = (oL st fun y st => oL st fun x st => xk_L_law ct K R n 673 ls (vl (x ||| y) :: st) σ k) := exS_step.trans rfl
set_option maxRecDepth 100000 in
theorem ev_L_law_673 {ct : Nat → Bool} {K : Kt} {R : Option AV → Hp → Prop} {n : Nat} {ls : List (Option AV)} {st : List AV} {σ : Hp} {k : Nat × Nat} : xe_L_law ct K R (n + 1) 673 ls st σ k = (lR ls 0 fun x => xk_L_law ct K R n 674 ls (vr x :: st) σ k) := exS_step.trans rfl
set_option maxRecDepth 100000 in
theorem ev_L_law_674 {ct : Nat → Bool} {K : Kt} {R : Option AV → Hp → Prop} {n : Nat} {ls : List (Option AV)} {st : List AV} {σ : Hp} {k : Nat × Nat} : xe_L_law ct K R (n + 1) 674 ls st σ k = (lI ls 4 fun x => xk_L_law ct K R n 676 ls (vi x :: st) σ k) := exS_step.trans rfl
set_option maxRecDepth 100000 in
theorem ev_L_law_676 {ct : Nat → Bool} {K : Kt} {R : Option AV → Hp → Prop} {n : Nat} {ls : List (Option AV)} {st : List AV} {σ : Hp} {k : Nat × Nat} : xe_L_law ct K R (n + 1) 676 ls st σ k = (xk_L_law ct K R n 677 ls (vi (3) :: st) σ k) := exS_step.trans rfl
set_option maxRecDepth 100000 in
theorem ev_L_law_677 {ct : Nat → Bool} {K : Kt} {R : Option AV → Hp → Prop} {n : Nat} {ls : List (Option AV)} {st : List AV} {σ : Hp} {k : Nat × Nat} : xe_L_law ct K R (n + 1) 677 ls st σ k = (oI st fun y st => oI st fun x st => xk_L_law ct K R n 678 ls (vi (x + y) :: st) σ k) := exS_step.trans rfl
set_option maxRecDepth 100000 in
theorem ev_L_law_678 {ct : Nat → Bool} {K : Kt} {R : Option AV → Hp → Prop} {n : Nat} {ls : List (Option AV)} {st : List AV} {σ : Hp} {k : Nat × Nat} : xe_L_law ct K R (n + 1) 678 ls st σ k = (oI st fun j st => oR st fun x st => (kd σ x = 101 ∨ kd σ x = 108) ∧ (0 ≤ j ∧ j < ln σ x) ∧ xk_L_law ct K R n 679 ls (vi (aI σ x j) :: st) σ k) := exS_step.trans rfl
set_option maxRecDepth 100000 in
theorem ev_L_law_679 {ct : Nat → Bool} {K : Kt} {R : Option AV → Hp → Prop} {n : Nat} {ls : List (Option AV)} {st : List AV} {σ : Hp} {k : Nat × Nat} : xe_L_law ct K R (n + 1) 679 ls st σ k = (oI st fun x st => xk_L_law ct K R n 680 ls (vl (BitVec.ofInt 64 (wI x)) :: st) σ k) := exS_step.trans rfl
set_option maxRecDepth 100000 in
theorem ev_L_law_680 {ct : Nat → Bool} {K : Kt} {R : Option AV → Hp → Prop} {n : Nat} {ls : List (Option AV)} {st : List AV} {σ : Hp} {k : Nat × Nat} : xe_L_law ct K R (n + 1) 680 ls st σ k = (xk_L_law ct K R n 682 ls (vi (32) :: st) σ k) := exS_step.trans rfl
set_option maxRecDepth 100000 in
theorem ev_L_law_682 {ct : Nat → Bool} {K : Kt} {R : Option AV → Hp → Prop} {n : Nat} {ls : List (Option AV)} {st : List AV} {σ : Hp} {k : Nat × Nat} : xe_L_law ct K R (n + 1) 682 ls st σ k = (oI st fun y st => oL st fun x st => xk_L_law ct K R n 683 ls (vl (x <<< (y % 64).toNat) :: st) σ k) := exS_step.trans rfl
set_option maxRecDepth 100000 in
theorem ev_L_law_683 {ct : Nat → Bool} {K : Kt} {R : Option AV → Hp → Prop} {n : Nat} {ls : List (Option AV)} {st : List AV} {σ : Hp} {k : Nat × Nat} : xe_L_law ct K R (n + 1) 683 ls st σ k = (lR ls 0 fun x => xk_L_law ct K R n 684 ls (vr x :: st) σ k) := exS_step.trans rfl
set_option maxRecDepth 100000 in
theorem ev_L_law_684 {ct : Nat → Bool} {K : Kt} {R : Option AV → Hp → Prop} {n : Nat} {ls : List (Option AV)} {st : List AV} {σ : Hp} {k : Nat × Nat} : xe_L_law ct K R (n + 1) 684 ls st σ k = (lI ls 4 fun x => xk_L_law ct K R n 686 ls (vi x :: st) σ k) := exS_step.trans rfl
set_option maxRecDepth 100000 in
theorem ev_L_law_686 {ct : Nat → Bool} {K : Kt} {R : Option AV → Hp → Prop} {n : Nat} {ls : List (Option AV)} {st : List AV} {σ : Hp} {k : Nat × Nat} : xe_L_law ct K R (n + 1) 686 ls st σ k = (xk_L_law ct K R n 687 ls (vi (4) :: st) σ k) := exS_step.trans rfl
set_option maxRecDepth 100000 in
theorem ev_L_law_687 {ct : Nat → Bool} {K : Kt} {R : Option AV → Hp → Prop} {n : Nat} {ls : List (Option AV)} {st : List AV} {σ : Hp} {k : Nat × Nat} : xe_L_law ct K R (n + 1) 687 ls st σ k = (oI st fun y st => oI st fun x st => xk_L_law ct K R n 688 ls (vi (x + y) :: st) σ k) := exS_step.trans rfl
set_option maxRecDepth 100000 in
theorem ev_L_law_688 {ct : Nat → Bool} {K : Kt} {R : Option AV → Hp → Prop} {n : Nat} {ls : List (Option AV)} {st : List AV} {σ : Hp} {k : Nat × Nat} : xe_L_law ct K R (n + 1) 688 ls st σ k = (oI st fun j st => oR st fun x st => (kd σ x = 101 ∨ kd σ x = 108) ∧ (0 ≤ j ∧ j < ln σ x) ∧ xk_L_law ct K R n 689 ls (vi (aI σ x j) :: st) σ k) := exS_step.trans rfl
set_option maxRecDepth 100000 in
theorem ev_L_law_689 {ct : Nat → Bool} {K : Kt} {R : Option AV → Hp → Prop} {n : Nat} {ls : List (Option AV)} {st : List AV} {σ : Hp} {k : Nat × Nat} : xe_L_law ct K R (n + 1) 689 ls st σ k = (oI st fun x st => xk_L_law ct K R n 690 ls (vl (BitVec.ofInt 64 (wI x)) :: st) σ k) := exS_step.trans rfl
set_option maxRecDepth 100000 in
theorem ev_L_law_690 {ct : Nat → Bool} {K : Kt} {R : Option AV → Hp → Prop} {n : Nat} {ls : List (Option AV)} {st : List AV} {σ : Hp} {k : Nat × Nat} : xe_L_law ct K R (n + 1) 690 ls st σ k = (xk_L_law ct K R n 693 ls (vl (BitVec.ofInt 64 (4294967295)) :: st) σ k) := exS_step.trans rfl
set_option maxRecDepth 100000 in
theorem ev_L_law_693 {ct : Nat → Bool} {K : Kt} {R : Option AV → Hp → Prop} {n : Nat} {ls : List (Option AV)} {st : List AV} {σ : Hp} {k : Nat × Nat} : xe_L_law ct K R (n + 1) 693 ls st σ k = (oL st fun y st => oL st fun x st => xk_L_law ct K R n 694 ls (vl (x &&& y) :: st) σ k) := exS_step.trans rfl
set_option maxRecDepth 100000 in
theorem ev_L_law_694 {ct : Nat → Bool} {K : Kt} {R : Option AV → Hp → Prop} {n : Nat} {ls : List (Option AV)} {st : List AV} {σ : Hp} {k : Nat × Nat} : xe_L_law ct K R (n + 1) 694 ls st σ k = (oL st fun y st => oL st fun x st => xk_L_law ct K R n 695 ls (vl (x ||| y) :: st) σ k) := exS_step.trans rfl
set_option maxRecDepth 100000 in
theorem ev_L_law_695 {ct : Nat → Bool} {K : Kt} {R : Option AV → Hp → Prop} {n : Nat} {ls : List (Option AV)} {st : List AV} {σ : Hp} {k : Nat × Nat} : xe_L_law ct K R (n + 1) 695 ls st σ k = (lR ls 0 fun x => xk_L_law ct K R n 696 ls (vr x :: st) σ k) := exS_step.trans rfl
set_option maxRecDepth 100000 in
theorem ev_L_law_696 {ct : Nat → Bool} {K : Kt} {R : Option AV → Hp → Prop} {n : Nat} {ls : List (Option AV)} {st : List AV} {σ : Hp} {k : Nat × Nat} : xe_L_law ct K R (n + 1) 696 ls st σ k = (lI ls 4 fun x => xk_L_law ct K R n 698 ls (vi x :: st) σ k) := exS_step.trans rfl
set_option maxRecDepth 100000 in
theorem ev_L_law_698 {ct : Nat → Bool} {K : Kt} {R : Option AV → Hp → Prop} {n : Nat} {ls : List (Option AV)} {st : List AV} {σ : Hp} {k : Nat × Nat} : xe_L_law ct K R (n + 1) 698 ls st σ k = (xk_L_law ct K R n 699 ls (vi (5) :: st) σ k) := exS_step.trans rfl
set_option maxRecDepth 100000 in
theorem ev_L_law_699 {ct : Nat → Bool} {K : Kt} {R : Option AV → Hp → Prop} {n : Nat} {ls : List (Option AV)} {st : List AV} {σ : Hp} {k : Nat × Nat} : xe_L_law ct K R (n + 1) 699 ls st σ k = (oI st fun y st => oI st fun x st => xk_L_law ct K R n 700 ls (vi (x + y) :: st) σ k) := exS_step.trans rfl
set_option maxRecDepth 100000 in
theorem ev_L_law_700 {ct : Nat → Bool} {K : Kt} {R : Option AV → Hp → Prop} {n : Nat} {ls : List (Option AV)} {st : List AV} {σ : Hp} {k : Nat × Nat} : xe_L_law ct K R (n + 1) 700 ls st σ k = (oI st fun j st => oR st fun x st => (kd σ x = 101 ∨ kd σ x = 108) ∧ (0 ≤ j ∧ j < ln σ x) ∧ xk_L_law ct K R n 701 ls (vi (aI σ x j) :: st) σ k) := exS_step.trans rfl
set_option maxRecDepth 100000 in
theorem ev_L_law_701 {ct : Nat → Bool} {K : Kt} {R : Option AV → Hp → Prop} {n : Nat} {ls : List (Option AV)} {st : List AV} {σ : Hp} {k : Nat × Nat} : xe_L_law ct K R (n + 1) 701 ls st σ k = (oI st fun x st => xk_L_law ct K R n 702 ls (vl (BitVec.ofInt 64 (wI x)) :: st) σ k) := exS_step.trans rfl
set_option maxRecDepth 100000 in
theorem ev_L_law_702 {ct : Nat → Bool} {K : Kt} {R : Option AV → Hp → Prop} {n : Nat} {ls : List (Option AV)} {st : List AV} {σ : Hp} {k : Nat × Nat} : xe_L_law ct K R (n + 1) 702 ls st σ k = (xk_L_law ct K R n 704 ls (vi (32) :: st) σ k) := exS_step.trans rfl
set_option maxRecDepth 100000 in
theorem ev_L_law_704 {ct : Nat → Bool} {K : Kt} {R : Option AV → Hp → Prop} {n : Nat} {ls : List (Option AV)} {st : List AV} {σ : Hp} {k : Nat × Nat} : xe_L_law ct K R (n + 1) 704 ls st σ k = (oI st fun y st => oL st fun x st => xk_L_law ct K R n 705 ls (vl (x <<< (y % 64).toNat) :: st) σ k) := exS_step.trans rfl
set_option maxRecDepth 100000 in
theorem ev_L_law_705 {ct : Nat → Bool} {K : Kt} {R : Option AV → Hp → Prop} {n : Nat} {ls : List (Option AV)} {st : List AV} {σ : Hp} {k : Nat × Nat} : xe_L_law ct K R (n + 1) 705 ls st σ k = (lR ls 0 fun x => xk_L_law ct K R n 706 ls (vr x :: st) σ k) := exS_step.trans rfl
set_option maxRecDepth 100000 in
theorem ev_L_law_706 {ct : Nat → Bool} {K : Kt} {R : Option AV → Hp → Prop} {n : Nat} {ls : List (Option AV)} {st : List AV} {σ : Hp} {k : Nat × Nat} : xe_L_law ct K R (n + 1) 706 ls st σ k = (lI ls 4 fun x => xk_L_law ct K R n 708 ls (vi x :: st) σ k) := exS_step.trans rfl
set_option maxRecDepth 100000 in
theorem ev_L_law_708 {ct : Nat → Bool} {K : Kt} {R : Option AV → Hp → Prop} {n : Nat} {ls : List (Option AV)} {st : List AV} {σ : Hp} {k : Nat × Nat} : xe_L_law ct K R (n + 1) 708 ls st σ k = (xk_L_law ct K R n 710 ls (vi (6) :: st) σ k) := exS_step.trans rfl
set_option maxRecDepth 100000 in
theorem ev_L_law_710 {ct : Nat → Bool} {K : Kt} {R : Option AV → Hp → Prop} {n : Nat} {ls : List (Option AV)} {st : List AV} {σ : Hp} {k : Nat × Nat} : xe_L_law ct K R (n + 1) 710 ls st σ k = (oI st fun y st => oI st fun x st => xk_L_law ct K R n 711 ls (vi (x + y) :: st) σ k) := exS_step.trans rfl
set_option maxRecDepth 100000 in
theorem ev_L_law_711 {ct : Nat → Bool} {K : Kt} {R : Option AV → Hp → Prop} {n : Nat} {ls : List (Option AV)} {st : List AV} {σ : Hp} {k : Nat × Nat} : xe_L_law ct K R (n + 1) 711 ls st σ k = (oI st fun j st => oR st fun x st => (kd σ x = 101 ∨ kd σ x = 108) ∧ (0 ≤ j ∧ j < ln σ x) ∧ xk_L_law ct K R n 712 ls (vi (aI σ x j) :: st) σ k) := exS_step.trans rfl
set_option maxRecDepth 100000 in
theorem ev_L_law_712 {ct : Nat → Bool} {K : Kt} {R : Option AV → Hp → Prop} {n : Nat} {ls : List (Option AV)} {st : List AV} {σ : Hp} {k : Nat × Nat} : xe_L_law ct K R (n + 1) 712 ls st σ k = (oI st fun x st => xk_L_law ct K R n 713 ls (vl (BitVec.ofInt 64 (wI x)) :: st) σ k) := exS_step.trans rfl
set_option maxRecDepth 100000 in
theorem ev_L_law_713 {ct : Nat → Bool} {K : Kt} {R : Option AV → Hp → Prop} {n : Nat} {ls : List (Option AV)} {st : List AV} {σ : Hp} {k : Nat × Nat} : xe_L_law ct K R (n + 1) 713 ls st σ k = (xk_L_law ct K R n 716 ls (vl (BitVec.ofInt 64 (4294967295)) :: st) σ k) := exS_step.trans rfl
set_option maxRecDepth 100000 in
theorem ev_L_law_716 {ct : Nat → Bool} {K : Kt} {R : Option AV → Hp → Prop} {n : Nat} {ls : List (Option AV)} {st : List AV} {σ : Hp} {k : Nat × Nat} : xe_L_law ct K R (n + 1) 716 ls st σ k = (oL st fun y st => oL st fun x st => xk_L_law ct K R n 717 ls (vl (x &&& y) :: st) σ k) := exS_step.trans rfl
set_option maxRecDepth 100000 in
theorem ev_L_law_717 {ct : Nat → Bool} {K : Kt} {R : Option AV → Hp → Prop} {n : Nat} {ls : List (Option AV)} {st : List AV} {σ : Hp} {k : Nat × Nat} : xe_L_law ct K R (n + 1) 717 ls st σ k = (oL st fun y st => oL st fun x st => xk_L_law ct K R n 718 ls (vl (x ||| y) :: st) σ k) := exS_step.trans rfl
set_option maxRecDepth 100000 in
theorem ev_L_law_718 {ct : Nat → Bool} {K : Kt} {R : Option AV → Hp → Prop} {n : Nat} {ls : List (Option AV)} {st : List AV} {σ : Hp} {k : Nat × Nat} : xe_L_law ct K R (n + 1) 718 ls st σ k = (popN 4 st [] fun av rest => (catS rest ≤ 8 ∧ 3 < 45 ∧ k.1 + 0 ≤ 601024 ∧ k.2 + 0 ≤ 7293034) ∧ (sp_X11_feed) av σ fun v σ' => xk_L_law ct K R n 721 ls (v.toList ++ rest) σ' (k.1 + 0, k.2 + 0)) := exS_step.trans rfl
set_option maxRecDepth 100000 in
theorem ev_L_law_721 {ct : Nat → Bool} {K : Kt} {R : Option AV → Hp → Prop} {n : Nat} {ls : List (Option AV)} {st : List AV} {σ : Hp} {k : Nat × Nat} : xe_L_law ct K R (n + 1) 721 ls st σ k = (lR ls 2 fun x => xk_L_law ct K R n 722 ls (vr x :: st) σ k) := exS_step.trans rfl
set_option maxRecDepth 100000 in
theorem ev_L_law_722 {ct : Nat → Bool} {K : Kt} {R : Option AV → Hp → Prop} {n : Nat} {ls : List (Option AV)} {st : List AV} {σ : Hp} {k : Nat × Nat} : xe_L_law ct K R (n + 1) 722 ls st σ k = (lR ls 0 fun x => xk_L_law ct K R n 723 ls (vr x :: st) σ k) := exS_step.trans rfl
set_option maxRecDepth 100000 in
theorem ev_L_law_723 {ct : Nat → Bool} {K : Kt} {R : Option AV → Hp → Prop} {n : Nat} {ls : List (Option AV)} {st : List AV} {σ : Hp} {k : Nat × Nat} : xe_L_law ct K R (n + 1) 723 ls st σ k = (lI ls 4 fun x => xk_L_law ct K R n 725 ls (vi x :: st) σ k) := exS_step.trans rfl
set_option maxRecDepth 100000 in
theorem ev_L_law_725 {ct : Nat → Bool} {K : Kt} {R : Option AV → Hp → Prop} {n : Nat} {ls : List (Option AV)} {st : List AV} {σ : Hp} {k : Nat × Nat} : xe_L_law ct K R (n + 1) 725 ls st σ k = (xk_L_law ct K R n 726 ls (vi (1) :: st) σ k) := exS_step.trans rfl
set_option maxRecDepth 100000 in
theorem ev_L_law_726 {ct : Nat → Bool} {K : Kt} {R : Option AV → Hp → Prop} {n : Nat} {ls : List (Option AV)} {st : List AV} {σ : Hp} {k : Nat × Nat} : xe_L_law ct K R (n + 1) 726 ls st σ k = (oI st fun y st => oI st fun x st => xk_L_law ct K R n 727 ls (vi (x + y) :: st) σ k) := exS_step.trans rfl
set_option maxRecDepth 100000 in
theorem ev_L_law_727 {ct : Nat → Bool} {K : Kt} {R : Option AV → Hp → Prop} {n : Nat} {ls : List (Option AV)} {st : List AV} {σ : Hp} {k : Nat × Nat} : xe_L_law ct K R (n + 1) 727 ls st σ k = (oI st fun j st => oR st fun x st => (kd σ x = 101 ∨ kd σ x = 108) ∧ (0 ≤ j ∧ j < ln σ x) ∧ xk_L_law ct K R n 728 ls (vi (aI σ x j) :: st) σ k) := exS_step.trans rfl
set_option maxRecDepth 100000 in
theorem ev_L_law_728 {ct : Nat → Bool} {K : Kt} {R : Option AV → Hp → Prop} {n : Nat} {ls : List (Option AV)} {st : List AV} {σ : Hp} {k : Nat × Nat} : xe_L_law ct K R (n + 1) 728 ls st σ k = (oI st fun x st => xk_L_law ct K R n 729 ls (vl (BitVec.ofInt 64 (wI x)) :: st) σ k) := exS_step.trans rfl
set_option maxRecDepth 100000 in
theorem ev_L_law_729 {ct : Nat → Bool} {K : Kt} {R : Option AV → Hp → Prop} {n : Nat} {ls : List (Option AV)} {st : List AV} {σ : Hp} {k : Nat × Nat} : xe_L_law ct K R (n + 1) 729 ls st σ k = (xk_L_law ct K R n 731 ls (vi (32) :: st) σ k) := exS_step.trans rfl
set_option maxRecDepth 100000 in
theorem ev_L_law_731 {ct : Nat → Bool} {K : Kt} {R : Option AV → Hp → Prop} {n : Nat} {ls : List (Option AV)} {st : List AV} {σ : Hp} {k : Nat × Nat} : xe_L_law ct K R (n + 1) 731 ls st σ k = (oI st fun y st => oL st fun x st => xk_L_law ct K R n 732 ls (vl (x <<< (y % 64).toNat) :: st) σ k) := exS_step.trans rfl
set_option maxRecDepth 100000 in
theorem ev_L_law_732 {ct : Nat → Bool} {K : Kt} {R : Option AV → Hp → Prop} {n : Nat} {ls : List (Option AV)} {st : List AV} {σ : Hp} {k : Nat × Nat} : xe_L_law ct K R (n + 1) 732 ls st σ k = (lR ls 0 fun x => xk_L_law ct K R n 733 ls (vr x :: st) σ k) := exS_step.trans rfl
set_option maxRecDepth 100000 in
theorem ev_L_law_733 {ct : Nat → Bool} {K : Kt} {R : Option AV → Hp → Prop} {n : Nat} {ls : List (Option AV)} {st : List AV} {σ : Hp} {k : Nat × Nat} : xe_L_law ct K R (n + 1) 733 ls st σ k = (lI ls 4 fun x => xk_L_law ct K R n 735 ls (vi x :: st) σ k) := exS_step.trans rfl
set_option maxRecDepth 100000 in
theorem ev_L_law_735 {ct : Nat → Bool} {K : Kt} {R : Option AV → Hp → Prop} {n : Nat} {ls : List (Option AV)} {st : List AV} {σ : Hp} {k : Nat × Nat} : xe_L_law ct K R (n + 1) 735 ls st σ k = (xk_L_law ct K R n 736 ls (vi (2) :: st) σ k) := exS_step.trans rfl
set_option maxRecDepth 100000 in
theorem ev_L_law_736 {ct : Nat → Bool} {K : Kt} {R : Option AV → Hp → Prop} {n : Nat} {ls : List (Option AV)} {st : List AV} {σ : Hp} {k : Nat × Nat} : xe_L_law ct K R (n + 1) 736 ls st σ k = (oI st fun y st => oI st fun x st => xk_L_law ct K R n 737 ls (vi (x + y) :: st) σ k) := exS_step.trans rfl
set_option maxRecDepth 100000 in
theorem ev_L_law_737 {ct : Nat → Bool} {K : Kt} {R : Option AV → Hp → Prop} {n : Nat} {ls : List (Option AV)} {st : List AV} {σ : Hp} {k : Nat × Nat} : xe_L_law ct K R (n + 1) 737 ls st σ k = (oI st fun j st => oR st fun x st => (kd σ x = 101 ∨ kd σ x = 108) ∧ (0 ≤ j ∧ j < ln σ x) ∧ xk_L_law ct K R n 738 ls (vi (aI σ x j) :: st) σ k) := exS_step.trans rfl
set_option maxRecDepth 100000 in
theorem ev_L_law_738 {ct : Nat → Bool} {K : Kt} {R : Option AV → Hp → Prop} {n : Nat} {ls : List (Option AV)} {st : List AV} {σ : Hp} {k : Nat × Nat} : xe_L_law ct K R (n + 1) 738 ls st σ k = (oI st fun x st => xk_L_law ct K R n 739 ls (vl (BitVec.ofInt 64 (wI x)) :: st) σ k) := exS_step.trans rfl
set_option maxRecDepth 100000 in
theorem ev_L_law_739 {ct : Nat → Bool} {K : Kt} {R : Option AV → Hp → Prop} {n : Nat} {ls : List (Option AV)} {st : List AV} {σ : Hp} {k : Nat × Nat} : xe_L_law ct K R (n + 1) 739 ls st σ k = (xk_L_law ct K R n 742 ls (vl (BitVec.ofInt 64 (4294967295)) :: st) σ k) := exS_step.trans rfl
set_option maxRecDepth 100000 in
theorem ev_L_law_742 {ct : Nat → Bool} {K : Kt} {R : Option AV → Hp → Prop} {n : Nat} {ls : List (Option AV)} {st : List AV} {σ : Hp} {k : Nat × Nat} : xe_L_law ct K R (n + 1) 742 ls st σ k = (oL st fun y st => oL st fun x st => xk_L_law ct K R n 743 ls (vl (x &&& y) :: st) σ k) := exS_step.trans rfl
set_option maxRecDepth 100000 in
theorem ev_L_law_743 {ct : Nat → Bool} {K : Kt} {R : Option AV → Hp → Prop} {n : Nat} {ls : List (Option AV)} {st : List AV} {σ : Hp} {k : Nat × Nat} : xe_L_law ct K R (n + 1) 743 ls st σ k = (oL st fun y st => oL st fun x st => xk_L_law ct K R n 744 ls (vl (x ||| y) :: st) σ k) := exS_step.trans rfl
set_option maxRecDepth 100000 in
theorem ev_L_law_744 {ct : Nat → Bool} {K : Kt} {R : Option AV → Hp → Prop} {n : Nat} {ls : List (Option AV)} {st : List AV} {σ : Hp} {k : Nat × Nat} : xe_L_law ct K R (n + 1) 744 ls st σ k = (lR ls 0 fun x => xk_L_law ct K R n 745 ls (vr x :: st) σ k) := exS_step.trans rfl
set_option maxRecDepth 100000 in
theorem ev_L_law_745 {ct : Nat → Bool} {K : Kt} {R : Option AV → Hp → Prop} {n : Nat} {ls : List (Option AV)} {st : List AV} {σ : Hp} {k : Nat × Nat} : xe_L_law ct K R (n + 1) 745 ls st σ k = (lI ls 4 fun x => xk_L_law ct K R n 747 ls (vi x :: st) σ k) := exS_step.trans rfl
set_option maxRecDepth 100000 in
theorem ev_L_law_747 {ct : Nat → Bool} {K : Kt} {R : Option AV → Hp → Prop} {n : Nat} {ls : List (Option AV)} {st : List AV} {σ : Hp} {k : Nat × Nat} : xe_L_law ct K R (n + 1) 747 ls st σ k = (xk_L_law ct K R n 748 ls (vi (3) :: st) σ k) := exS_step.trans rfl
set_option maxRecDepth 100000 in
theorem ev_L_law_748 {ct : Nat → Bool} {K : Kt} {R : Option AV → Hp → Prop} {n : Nat} {ls : List (Option AV)} {st : List AV} {σ : Hp} {k : Nat × Nat} : xe_L_law ct K R (n + 1) 748 ls st σ k = (oI st fun y st => oI st fun x st => xk_L_law ct K R n 749 ls (vi (x + y) :: st) σ k) := exS_step.trans rfl
set_option maxRecDepth 100000 in
theorem ev_L_law_749 {ct : Nat → Bool} {K : Kt} {R : Option AV → Hp → Prop} {n : Nat} {ls : List (Option AV)} {st : List AV} {σ : Hp} {k : Nat × Nat} : xe_L_law ct K R (n + 1) 749 ls st σ k = (oI st fun j st => oR st fun x st => (kd σ x = 101 ∨ kd σ x = 108) ∧ (0 ≤ j ∧ j < ln σ x) ∧ xk_L_law ct K R n 750 ls (vi (aI σ x j) :: st) σ k) := exS_step.trans rfl
set_option maxRecDepth 100000 in
theorem ev_L_law_750 {ct : Nat → Bool} {K : Kt} {R : Option AV → Hp → Prop} {n : Nat} {ls : List (Option AV)} {st : List AV} {σ : Hp} {k : Nat × Nat} : xe_L_law ct K R (n + 1) 750 ls st σ k = (oI st fun x st => xk_L_law ct K R n 751 ls (vl (BitVec.ofInt 64 (wI x)) :: st) σ k) := exS_step.trans rfl
set_option maxRecDepth 100000 in
theorem ev_L_law_751 {ct : Nat → Bool} {K : Kt} {R : Option AV → Hp → Prop} {n : Nat} {ls : List (Option AV)} {st : List AV} {σ : Hp} {k : Nat × Nat} : xe_L_law ct K R (n + 1) 751 ls st σ k = (xk_L_law ct K R n 753 ls (vi (32) :: st) σ k) := exS_step.trans rfl
set_option maxRecDepth 100000 in
theorem ev_L_law_753 {ct : Nat → Bool} {K : Kt} {R : Option AV → Hp → Prop} {n : Nat} {ls : List (Option AV)} {st : List AV} {σ : Hp} {k : Nat × Nat} : xe_L_law ct K R (n + 1) 753 ls st σ k = (oI st fun y st => oL st fun x st => xk_L_law ct K R n 754 ls (vl (x <<< (y % 64).toNat) :: st) σ k) := exS_step.trans rfl
set_option maxRecDepth 100000 in
theorem ev_L_law_754 {ct : Nat → Bool} {K : Kt} {R : Option AV → Hp → Prop} {n : Nat} {ls : List (Option AV)} {st : List AV} {σ : Hp} {k : Nat × Nat} : xe_L_law ct K R (n + 1) 754 ls st σ k = (lR ls 0 fun x => xk_L_law ct K R n 755 ls (vr x :: st) σ k) := exS_step.trans rfl
set_option maxRecDepth 100000 in
theorem ev_L_law_755 {ct : Nat → Bool} {K : Kt} {R : Option AV → Hp → Prop} {n : Nat} {ls : List (Option AV)} {st : List AV} {σ : Hp} {k : Nat × Nat} : xe_L_law ct K R (n + 1) 755 ls st σ k = (lI ls 4 fun x => xk_L_law ct K R n 757 ls (vi x :: st) σ k) := exS_step.trans rfl
set_option maxRecDepth 100000 in
theorem ev_L_law_757 {ct : Nat → Bool} {K : Kt} {R : Option AV → Hp → Prop} {n : Nat} {ls : List (Option AV)} {st : List AV} {σ : Hp} {k : Nat × Nat} : xe_L_law ct K R (n + 1) 757 ls st σ k = (xk_L_law ct K R n 758 ls (vi (4) :: st) σ k) := exS_step.trans rfl
set_option maxRecDepth 100000 in
theorem ev_L_law_758 {ct : Nat → Bool} {K : Kt} {R : Option AV → Hp → Prop} {n : Nat} {ls : List (Option AV)} {st : List AV} {σ : Hp} {k : Nat × Nat} : xe_L_law ct K R (n + 1) 758 ls st σ k = (oI st fun y st => oI st fun x st => xk_L_law ct K R n 759 ls (vi (x + y) :: st) σ k) := exS_step.trans rfl
set_option maxRecDepth 100000 in
theorem ev_L_law_759 {ct : Nat → Bool} {K : Kt} {R : Option AV → Hp → Prop} {n : Nat} {ls : List (Option AV)} {st : List AV} {σ : Hp} {k : Nat × Nat} : xe_L_law ct K R (n + 1) 759 ls st σ k = (oI st fun j st => oR st fun x st => (kd σ x = 101 ∨ kd σ x = 108) ∧ (0 ≤ j ∧ j < ln σ x) ∧ xk_L_law ct K R n 760 ls (vi (aI σ x j) :: st) σ k) := exS_step.trans rfl
set_option maxRecDepth 100000 in
theorem ev_L_law_760 {ct : Nat → Bool} {K : Kt} {R : Option AV → Hp → Prop} {n : Nat} {ls : List (Option AV)} {st : List AV} {σ : Hp} {k : Nat × Nat} : xe_L_law ct K R (n + 1) 760 ls st σ k = (oI st fun x st => xk_L_law ct K R n 761 ls (vl (BitVec.ofInt 64 (wI x)) :: st) σ k) := exS_step.trans rfl
set_option maxRecDepth 100000 in
theorem ev_L_law_761 {ct : Nat → Bool} {K : Kt} {R : Option AV → Hp → Prop} {n : Nat} {ls : List (Option AV)} {st : List AV} {σ : Hp} {k : Nat × Nat} : xe_L_law ct K R (n + 1) 761 ls st σ k = (xk_L_law ct K R n 764 ls (vl (BitVec.ofInt 64 (4294967295)) :: st) σ k) := exS_step.trans rfl
set_option maxRecDepth 100000 in
theorem ev_L_law_764 {ct : Nat → Bool} {K : Kt} {R : Option AV → Hp → Prop} {n : Nat} {ls : List (Option AV)} {st : List AV} {σ : Hp} {k : Nat × Nat} : xe_L_law ct K R (n + 1) 764 ls st σ k = (oL st fun y st => oL st fun x st => xk_L_law ct K R n 765 ls (vl (x &&& y) :: st) σ k) := exS_step.trans rfl
set_option maxRecDepth 100000 in
theorem ev_L_law_765 {ct : Nat → Bool} {K : Kt} {R : Option AV → Hp → Prop} {n : Nat} {ls : List (Option AV)} {st : List AV} {σ : Hp} {k : Nat × Nat} : xe_L_law ct K R (n + 1) 765 ls st σ k = (oL st fun y st => oL st fun x st => xk_L_law ct K R n 766 ls (vl (x ||| y) :: st) σ k) := exS_step.trans rfl
set_option maxRecDepth 100000 in
theorem ev_L_law_766 {ct : Nat → Bool} {K : Kt} {R : Option AV → Hp → Prop} {n : Nat} {ls : List (Option AV)} {st : List AV} {σ : Hp} {k : Nat × Nat} : xe_L_law ct K R (n + 1) 766 ls st σ k = (lR ls 0 fun x => xk_L_law ct K R n 767 ls (vr x :: st) σ k) := exS_step.trans rfl
set_option maxRecDepth 100000 in
theorem ev_L_law_767 {ct : Nat → Bool} {K : Kt} {R : Option AV → Hp → Prop} {n : Nat} {ls : List (Option AV)} {st : List AV} {σ : Hp} {k : Nat × Nat} : xe_L_law ct K R (n + 1) 767 ls st σ k = (lI ls 4 fun x => xk_L_law ct K R n 769 ls (vi x :: st) σ k) := exS_step.trans rfl
set_option maxRecDepth 100000 in
theorem ev_L_law_769 {ct : Nat → Bool} {K : Kt} {R : Option AV → Hp → Prop} {n : Nat} {ls : List (Option AV)} {st : List AV} {σ : Hp} {k : Nat × Nat} : xe_L_law ct K R (n + 1) 769 ls st σ k = (xk_L_law ct K R n 770 ls (vi (5) :: st) σ k) := exS_step.trans rfl
set_option maxRecDepth 100000 in
theorem ev_L_law_770 {ct : Nat → Bool} {K : Kt} {R : Option AV → Hp → Prop} {n : Nat} {ls : List (Option AV)} {st : List AV} {σ : Hp} {k : Nat × Nat} : xe_L_law ct K R (n + 1) 770 ls st σ k = (oI st fun y st => oI st fun x st => xk_L_law ct K R n 771 ls (vi (x + y) :: st) σ k) := exS_step.trans rfl
set_option maxRecDepth 100000 in
theorem ev_L_law_771 {ct : Nat → Bool} {K : Kt} {R : Option AV → Hp → Prop} {n : Nat} {ls : List (Option AV)} {st : List AV} {σ : Hp} {k : Nat × Nat} : xe_L_law ct K R (n + 1) 771 ls st σ k = (oI st fun j st => oR st fun x st => (kd σ x = 101 ∨ kd σ x = 108) ∧ (0 ≤ j ∧ j < ln σ x) ∧ xk_L_law ct K R n 772 ls (vi (aI σ x j) :: st) σ k) := exS_step.trans rfl
set_option maxRecDepth 100000 in
theorem ev_L_law_772 {ct : Nat → Bool} {K : Kt} {R : Option AV → Hp → Prop} {n : Nat} {ls : List (Option AV)} {st : List AV} {σ : Hp} {k : Nat × Nat} : xe_L_law ct K R (n + 1) 772 ls st σ k = (oI st fun x st => xk_L_law ct K R n 773 ls (vl (BitVec.ofInt 64 (wI x)) :: st) σ k) := exS_step.trans rfl
set_option maxRecDepth 100000 in
theorem ev_L_law_773 {ct : Nat → Bool} {K : Kt} {R : Option AV → Hp → Prop} {n : Nat} {ls : List (Option AV)} {st : List AV} {σ : Hp} {k : Nat × Nat} : xe_L_law ct K R (n + 1) 773 ls st σ k = (xk_L_law ct K R n 775 ls (vi (32) :: st) σ k) := exS_step.trans rfl
set_option maxRecDepth 100000 in
theorem ev_L_law_775 {ct : Nat → Bool} {K : Kt} {R : Option AV → Hp → Prop} {n : Nat} {ls : List (Option AV)} {st : List AV} {σ : Hp} {k : Nat × Nat} : xe_L_law ct K R (n + 1) 775 ls st σ k = (oI st fun y st => oL st fun x st => xk_L_law ct K R n 776 ls (vl (x <<< (y % 64).toNat) :: st) σ k) := exS_step.trans rfl
set_option maxRecDepth 100000 in
theorem ev_L_law_776 {ct : Nat → Bool} {K : Kt} {R : Option AV → Hp → Prop} {n : Nat} {ls : List (Option AV)} {st : List AV} {σ : Hp} {k : Nat × Nat} : xe_L_law ct K R (n + 1) 776 ls st σ k = (lR ls 0 fun x => xk_L_law ct K R n 777 ls (vr x :: st) σ k) := exS_step.trans rfl
set_option maxRecDepth 100000 in
theorem ev_L_law_777 {ct : Nat → Bool} {K : Kt} {R : Option AV → Hp → Prop} {n : Nat} {ls : List (Option AV)} {st : List AV} {σ : Hp} {k : Nat × Nat} : xe_L_law ct K R (n + 1) 777 ls st σ k = (lI ls 4 fun x => xk_L_law ct K R n 779 ls (vi x :: st) σ k) := exS_step.trans rfl
set_option maxRecDepth 100000 in
theorem ev_L_law_779 {ct : Nat → Bool} {K : Kt} {R : Option AV → Hp → Prop} {n : Nat} {ls : List (Option AV)} {st : List AV} {σ : Hp} {k : Nat × Nat} : xe_L_law ct K R (n + 1) 779 ls st σ k = (xk_L_law ct K R n 781 ls (vi (6) :: st) σ k) := exS_step.trans rfl
set_option maxRecDepth 100000 in
theorem ev_L_law_781 {ct : Nat → Bool} {K : Kt} {R : Option AV → Hp → Prop} {n : Nat} {ls : List (Option AV)} {st : List AV} {σ : Hp} {k : Nat × Nat} : xe_L_law ct K R (n + 1) 781 ls st σ k = (oI st fun y st => oI st fun x st => xk_L_law ct K R n 782 ls (vi (x + y) :: st) σ k) := exS_step.trans rfl
set_option maxRecDepth 100000 in
theorem ev_L_law_782 {ct : Nat → Bool} {K : Kt} {R : Option AV → Hp → Prop} {n : Nat} {ls : List (Option AV)} {st : List AV} {σ : Hp} {k : Nat × Nat} : xe_L_law ct K R (n + 1) 782 ls st σ k = (oI st fun j st => oR st fun x st => (kd σ x = 101 ∨ kd σ x = 108) ∧ (0 ≤ j ∧ j < ln σ x) ∧ xk_L_law ct K R n 783 ls (vi (aI σ x j) :: st) σ k) := exS_step.trans rfl
set_option maxRecDepth 100000 in
theorem ev_L_law_783 {ct : Nat → Bool} {K : Kt} {R : Option AV → Hp → Prop} {n : Nat} {ls : List (Option AV)} {st : List AV} {σ : Hp} {k : Nat × Nat} : xe_L_law ct K R (n + 1) 783 ls st σ k = (oI st fun x st => xk_L_law ct K R n 784 ls (vl (BitVec.ofInt 64 (wI x)) :: st) σ k) := exS_step.trans rfl
set_option maxRecDepth 100000 in
theorem ev_L_law_784 {ct : Nat → Bool} {K : Kt} {R : Option AV → Hp → Prop} {n : Nat} {ls : List (Option AV)} {st : List AV} {σ : Hp} {k : Nat × Nat} : xe_L_law ct K R (n + 1) 784 ls st σ k = (xk_L_law ct K R n 787 ls (vl (BitVec.ofInt 64 (4294967295)) :: st) σ k) := exS_step.trans rfl
set_option maxRecDepth 100000 in
theorem ev_L_law_787 {ct : Nat → Bool} {K : Kt} {R : Option AV → Hp → Prop} {n : Nat} {ls : List (Option AV)} {st : List AV} {σ : Hp} {k : Nat × Nat} : xe_L_law ct K R (n + 1) 787 ls st σ k = (oL st fun y st => oL st fun x st => xk_L_law ct K R n 788 ls (vl (x &&& y) :: st) σ k) := exS_step.trans rfl
set_option maxRecDepth 100000 in
theorem ev_L_law_788 {ct : Nat → Bool} {K : Kt} {R : Option AV → Hp → Prop} {n : Nat} {ls : List (Option AV)} {st : List AV} {σ : Hp} {k : Nat × Nat} : xe_L_law ct K R (n + 1) 788 ls st σ k = (oL st fun y st => oL st fun x st => xk_L_law ct K R n 789 ls (vl (x ||| y) :: st) σ k) := exS_step.trans rfl
set_option maxRecDepth 100000 in
theorem ev_L_law_789 {ct : Nat → Bool} {K : Kt} {R : Option AV → Hp → Prop} {n : Nat} {ls : List (Option AV)} {st : List AV} {σ : Hp} {k : Nat × Nat} : xe_L_law ct K R (n + 1) 789 ls st σ k = (popN 4 st [] fun av rest => (catS rest ≤ 8 ∧ 1 < 45 ∧ k.1 + 0 ≤ 601024 ∧ k.2 + 0 ≤ 7293034) ∧ (sp_X12_feed) av σ fun v σ' => xk_L_law ct K R n 792 ls (v.toList ++ rest) σ' (k.1 + 0, k.2 + 0)) := exS_step.trans rfl
set_option maxRecDepth 100000 in
theorem ev_L_law_792 {ct : Nat → Bool} {K : Kt} {R : Option AV → Hp → Prop} {n : Nat} {ls : List (Option AV)} {st : List AV} {σ : Hp} {k : Nat × Nat} : xe_L_law ct K R (n + 1) 792 ls st σ k = (oI st fun y st => oI st fun x st => (wI x = wI y → xk_L_law ct K R n 1333 ls st σ k) ∧ (¬ (wI x = wI y) → xk_L_law ct K R n 795 ls st σ k)) := exS_step.trans rfl
set_option maxRecDepth 100000 in
theorem ev_L_law_795 {ct : Nat → Bool} {K : Kt} {R : Option AV → Hp → Prop} {n : Nat} {ls : List (Option AV)} {st : List AV} {σ : Hp} {k : Nat × Nat} : xe_L_law ct K R (n + 1) 795 ls st σ k = (xk_L_law ct K R n 796 ls (vi (0) :: st) σ k) := exS_step.trans rfl
set_option maxRecDepth 100000 in
theorem ev_L_law_796 {ct : Nat → Bool} {K : Kt} {R : Option AV → Hp → Prop} {n : Nat} {ls : List (Option AV)} {st : List AV} {σ : Hp} {k : Nat × Nat} : xe_L_law ct K R (n + 1) 796 ls st σ k = (oI st fun x st => st = [] ∧ (x = 0 ∨ x = 1) ∧ R (some (vi x)) σ) := exS_step.trans rfl
set_option maxRecDepth 100000 in
theorem ev_L_law_797 {ct : Nat → Bool} {K : Kt} {R : Option AV → Hp → Prop} {n : Nat} {ls : List (Option AV)} {st : List AV} {σ : Hp} {k : Nat × Nat} : xe_L_law ct K R (n + 1) 797 ls st σ k = (lR ls 1 fun x => xk_L_law ct K R n 798 ls (vr x :: st) σ k) := exS_step.trans rfl
set_option maxRecDepth 100000 in
theorem ev_L_law_798 {ct : Nat → Bool} {K : Kt} {R : Option AV → Hp → Prop} {n : Nat} {ls : List (Option AV)} {st : List AV} {σ : Hp} {k : Nat × Nat} : xe_L_law ct K R (n + 1) 798 ls st σ k = (popN 1 st [] fun av rest => (catS rest ≤ 8 ∧ 42 < 45 ∧ k.1 + 0 ≤ 601024 ∧ k.2 + 0 ≤ 7293034) ∧ (sp_X11_cards) av σ fun v σ' => xk_L_law ct K R n 801 ls (v.toList ++ rest) σ' (k.1 + 0, k.2 + 0)) := exS_step.trans rfl
set_option maxRecDepth 100000 in
theorem ev_L_law_801 {ct : Nat → Bool} {K : Kt} {R : Option AV → Hp → Prop} {n : Nat} {ls : List (Option AV)} {st : List AV} {σ : Hp} {k : Nat × Nat} : xe_L_law ct K R (n + 1) 801 ls st σ k = (lR ls 2 fun x => xk_L_law ct K R n 802 ls (vr x :: st) σ k) := exS_step.trans rfl
set_option maxRecDepth 100000 in
theorem ev_L_law_802 {ct : Nat → Bool} {K : Kt} {R : Option AV → Hp → Prop} {n : Nat} {ls : List (Option AV)} {st : List AV} {σ : Hp} {k : Nat × Nat} : xe_L_law ct K R (n + 1) 802 ls st σ k = (popN 1 st [] fun av rest => (catS rest ≤ 8 ∧ 5 < 45 ∧ k.1 + 0 ≤ 601024 ∧ k.2 + 0 ≤ 7293034) ∧ (sp_X12_cards) av σ fun v σ' => xk_L_law ct K R n 805 ls (v.toList ++ rest) σ' (k.1 + 0, k.2 + 0)) := exS_step.trans rfl
set_option maxRecDepth 100000 in
theorem ev_L_law_805 {ct : Nat → Bool} {K : Kt} {R : Option AV → Hp → Prop} {n : Nat} {ls : List (Option AV)} {st : List AV} {σ : Hp} {k : Nat × Nat} : xe_L_law ct K R (n + 1) 805 ls st σ k = (oI st fun y st => oI st fun x st => (wI x = wI y → xk_L_law ct K R n 1333 ls st σ k) ∧ (¬ (wI x = wI y) → xk_L_law ct K R n 808 ls st σ k)) := exS_step.trans rfl
set_option maxRecDepth 100000 in
theorem ev_L_law_808 {ct : Nat → Bool} {K : Kt} {R : Option AV → Hp → Prop} {n : Nat} {ls : List (Option AV)} {st : List AV} {σ : Hp} {k : Nat × Nat} : xe_L_law ct K R (n + 1) 808 ls st σ k = (xk_L_law ct K R n 809 ls (vi (0) :: st) σ k) := exS_step.trans rfl
set_option maxRecDepth 100000 in
theorem ev_L_law_809 {ct : Nat → Bool} {K : Kt} {R : Option AV → Hp → Prop} {n : Nat} {ls : List (Option AV)} {st : List AV} {σ : Hp} {k : Nat × Nat} : xe_L_law ct K R (n + 1) 809 ls st σ k = (oI st fun x st => st = [] ∧ (x = 0 ∨ x = 1) ∧ R (some (vi x)) σ) := exS_step.trans rfl
set_option maxRecDepth 100000 in
theorem ev_L_law_810 {ct : Nat → Bool} {K : Kt} {R : Option AV → Hp → Prop} {n : Nat} {ls : List (Option AV)} {st : List AV} {σ : Hp} {k : Nat × Nat} : xe_L_law ct K R (n + 1) 810 ls st σ k = (lR ls 1 fun x => xk_L_law ct K R n 811 ls (vr x :: st) σ k) := exS_step.trans rfl
set_option maxRecDepth 100000 in
theorem ev_L_law_811 {ct : Nat → Bool} {K : Kt} {R : Option AV → Hp → Prop} {n : Nat} {ls : List (Option AV)} {st : List AV} {σ : Hp} {k : Nat × Nat} : xe_L_law ct K R (n + 1) 811 ls st σ k = (lR ls 0 fun x => xk_L_law ct K R n 812 ls (vr x :: st) σ k) := exS_step.trans rfl
set_option maxRecDepth 100000 in
theorem ev_L_law_812 {ct : Nat → Bool} {K : Kt} {R : Option AV → Hp → Prop} {n : Nat} {ls : List (Option AV)} {st : List AV} {σ : Hp} {k : Nat × Nat} : xe_L_law ct K R (n + 1) 812 ls st σ k = (lI ls 4 fun x => xk_L_law ct K R n 814 ls (vi x :: st) σ k) := exS_step.trans rfl
set_option maxRecDepth 100000 in
theorem ev_L_law_814 {ct : Nat → Bool} {K : Kt} {R : Option AV → Hp → Prop} {n : Nat} {ls : List (Option AV)} {st : List AV} {σ : Hp} {k : Nat × Nat} : xe_L_law ct K R (n + 1) 814 ls st σ k = (xk_L_law ct K R n 815 ls (vi (1) :: st) σ k) := exS_step.trans rfl
set_option maxRecDepth 100000 in
theorem ev_L_law_815 {ct : Nat → Bool} {K : Kt} {R : Option AV → Hp → Prop} {n : Nat} {ls : List (Option AV)} {st : List AV} {σ : Hp} {k : Nat × Nat} : xe_L_law ct K R (n + 1) 815 ls st σ k = (oI st fun y st => oI st fun x st => xk_L_law ct K R n 816 ls (vi (x + y) :: st) σ k) := exS_step.trans rfl
set_option maxRecDepth 100000 in
theorem ev_L_law_816 {ct : Nat → Bool} {K : Kt} {R : Option AV → Hp → Prop} {n : Nat} {ls : List (Option AV)} {st : List AV} {σ : Hp} {k : Nat × Nat} : xe_L_law ct K R (n + 1) 816 ls st σ k = (oI st fun j st => oR st fun x st => (kd σ x = 101 ∨ kd σ x = 108) ∧ (0 ≤ j ∧ j < ln σ x) ∧ xk_L_law ct K R n 817 ls (vi (aI σ x j) :: st) σ k) := exS_step.trans rfl
set_option maxRecDepth 100000 in
theorem ev_L_law_817 {ct : Nat → Bool} {K : Kt} {R : Option AV → Hp → Prop} {n : Nat} {ls : List (Option AV)} {st : List AV} {σ : Hp} {k : Nat × Nat} : xe_L_law ct K R (n + 1) 817 ls st σ k = (popN 2 st [] fun av rest => (catS rest ≤ 8 ∧ 9 < 45 ∧ k.1 + 3 ≤ 601024 ∧ k.2 + 178 ≤ 7293034) ∧ (sp_X11_alarm) av σ fun v σ' => xk_L_law ct K R n 820 ls (v.toList ++ rest) σ' (k.1 + 3, k.2 + 178)) := exS_step.trans rfl
set_option maxRecDepth 100000 in
theorem ev_L_law_820 {ct : Nat → Bool} {K : Kt} {R : Option AV → Hp → Prop} {n : Nat} {ls : List (Option AV)} {st : List AV} {σ : Hp} {k : Nat × Nat} : xe_L_law ct K R (n + 1) 820 ls st σ k = (lR ls 2 fun x => xk_L_law ct K R n 821 ls (vr x :: st) σ k) := exS_step.trans rfl
set_option maxRecDepth 100000 in
theorem ev_L_law_821 {ct : Nat → Bool} {K : Kt} {R : Option AV → Hp → Prop} {n : Nat} {ls : List (Option AV)} {st : List AV} {σ : Hp} {k : Nat × Nat} : xe_L_law ct K R (n + 1) 821 ls st σ k = (lR ls 0 fun x => xk_L_law ct K R n 822 ls (vr x :: st) σ k) := exS_step.trans rfl
set_option maxRecDepth 100000 in
theorem ev_L_law_822 {ct : Nat → Bool} {K : Kt} {R : Option AV → Hp → Prop} {n : Nat} {ls : List (Option AV)} {st : List AV} {σ : Hp} {k : Nat × Nat} : xe_L_law ct K R (n + 1) 822 ls st σ k = (lI ls 4 fun x => xk_L_law ct K R n 824 ls (vi x :: st) σ k) := exS_step.trans rfl
set_option maxRecDepth 100000 in
theorem ev_L_law_824 {ct : Nat → Bool} {K : Kt} {R : Option AV → Hp → Prop} {n : Nat} {ls : List (Option AV)} {st : List AV} {σ : Hp} {k : Nat × Nat} : xe_L_law ct K R (n + 1) 824 ls st σ k = (xk_L_law ct K R n 825 ls (vi (1) :: st) σ k) := exS_step.trans rfl
set_option maxRecDepth 100000 in
theorem ev_L_law_825 {ct : Nat → Bool} {K : Kt} {R : Option AV → Hp → Prop} {n : Nat} {ls : List (Option AV)} {st : List AV} {σ : Hp} {k : Nat × Nat} : xe_L_law ct K R (n + 1) 825 ls st σ k = (oI st fun y st => oI st fun x st => xk_L_law ct K R n 826 ls (vi (x + y) :: st) σ k) := exS_step.trans rfl
set_option maxRecDepth 100000 in
theorem ev_L_law_826 {ct : Nat → Bool} {K : Kt} {R : Option AV → Hp → Prop} {n : Nat} {ls : List (Option AV)} {st : List AV} {σ : Hp} {k : Nat × Nat} : xe_L_law ct K R (n + 1) 826 ls st σ k = (oI st fun j st => oR st fun x st => (kd σ x = 101 ∨ kd σ x = 108) ∧ (0 ≤ j ∧ j < ln σ x) ∧ xk_L_law ct K R n 827 ls (vi (aI σ x j) :: st) σ k) := exS_step.trans rfl
set_option maxRecDepth 100000 in
theorem ev_L_law_827 {ct : Nat → Bool} {K : Kt} {R : Option AV → Hp → Prop} {n : Nat} {ls : List (Option AV)} {st : List AV} {σ : Hp} {k : Nat × Nat} : xe_L_law ct K R (n + 1) 827 ls st σ k = (popN 2 st [] fun av rest => (catS rest ≤ 8 ∧ 5 < 45 ∧ k.1 + 0 ≤ 601024 ∧ k.2 + 0 ≤ 7293034) ∧ (sp_X12_alarm) av σ fun v σ' => xk_L_law ct K R n 830 ls (v.toList ++ rest) σ' (k.1 + 0, k.2 + 0)) := exS_step.trans rfl
set_option maxRecDepth 100000 in
theorem ev_L_law_830 {ct : Nat → Bool} {K : Kt} {R : Option AV → Hp → Prop} {n : Nat} {ls : List (Option AV)} {st : List AV} {σ : Hp} {k : Nat × Nat} : xe_L_law ct K R (n + 1) 830 ls st σ k = (oI st fun y st => oI st fun x st => (wI x = wI y → xk_L_law ct K R n 1333 ls st σ k) ∧ (¬ (wI x = wI y) → xk_L_law ct K R n 833 ls st σ k)) := exS_step.trans rfl
set_option maxRecDepth 100000 in
theorem ev_L_law_833 {ct : Nat → Bool} {K : Kt} {R : Option AV → Hp → Prop} {n : Nat} {ls : List (Option AV)} {st : List AV} {σ : Hp} {k : Nat × Nat} : xe_L_law ct K R (n + 1) 833 ls st σ k = (xk_L_law ct K R n 834 ls (vi (0) :: st) σ k) := exS_step.trans rfl
set_option maxRecDepth 100000 in
theorem ev_L_law_834 {ct : Nat → Bool} {K : Kt} {R : Option AV → Hp → Prop} {n : Nat} {ls : List (Option AV)} {st : List AV} {σ : Hp} {k : Nat × Nat} : xe_L_law ct K R (n + 1) 834 ls st σ k = (oI st fun x st => st = [] ∧ (x = 0 ∨ x = 1) ∧ R (some (vi x)) σ) := exS_step.trans rfl
set_option maxRecDepth 100000 in
theorem ev_L_law_835 {ct : Nat → Bool} {K : Kt} {R : Option AV → Hp → Prop} {n : Nat} {ls : List (Option AV)} {st : List AV} {σ : Hp} {k : Nat × Nat} : xe_L_law ct K R (n + 1) 835 ls st σ k = (lR ls 1 fun x => xk_L_law ct K R n 836 ls (vr x :: st) σ k) := exS_step.trans rfl
set_option maxRecDepth 100000 in
theorem ev_L_law_836 {ct : Nat → Bool} {K : Kt} {R : Option AV → Hp → Prop} {n : Nat} {ls : List (Option AV)} {st : List AV} {σ : Hp} {k : Nat × Nat} : xe_L_law ct K R (n + 1) 836 ls st σ k = (lR ls 0 fun x => xk_L_law ct K R n 837 ls (vr x :: st) σ k) := exS_step.trans rfl
set_option maxRecDepth 100000 in
theorem ev_L_law_837 {ct : Nat → Bool} {K : Kt} {R : Option AV → Hp → Prop} {n : Nat} {ls : List (Option AV)} {st : List AV} {σ : Hp} {k : Nat × Nat} : xe_L_law ct K R (n + 1) 837 ls st σ k = (lI ls 4 fun x => xk_L_law ct K R n 839 ls (vi x :: st) σ k) := exS_step.trans rfl
set_option maxRecDepth 100000 in
theorem ev_L_law_839 {ct : Nat → Bool} {K : Kt} {R : Option AV → Hp → Prop} {n : Nat} {ls : List (Option AV)} {st : List AV} {σ : Hp} {k : Nat × Nat} : xe_L_law ct K R (n + 1) 839 ls st σ k = (xk_L_law ct K R n 840 ls (vi (1) :: st) σ k) := exS_step.trans rfl
set_option maxRecDepth 100000 in
theorem ev_L_law_840 {ct : Nat → Bool} {K : Kt} {R : Option AV → Hp → Prop} {n : Nat} {ls : List (Option AV)} {st : List AV} {σ : Hp} {k : Nat × Nat} : xe_L_law ct K R (n + 1) 840 ls st σ k = (oI st fun y st => oI st fun x st => xk_L_law ct K R n 841 ls (vi (x + y) :: st) σ k) := exS_step.trans rfl
set_option maxRecDepth 100000 in
theorem ev_L_law_841 {ct : Nat → Bool} {K : Kt} {R : Option AV → Hp → Prop} {n : Nat} {ls : List (Option AV)} {st : List AV} {σ : Hp} {k : Nat × Nat} : xe_L_law ct K R (n + 1) 841 ls st σ k = (oI st fun j st => oR st fun x st => (kd σ x = 101 ∨ kd σ x = 108) ∧ (0 ≤ j ∧ j < ln σ x) ∧ xk_L_law ct K R n 842 ls (vi (aI σ x j) :: st) σ k) := exS_step.trans rfl
set_option maxRecDepth 100000 in
theorem ev_L_law_842 {ct : Nat → Bool} {K : Kt} {R : Option AV → Hp → Prop} {n : Nat} {ls : List (Option AV)} {st : List AV} {σ : Hp} {k : Nat × Nat} : xe_L_law ct K R (n + 1) 842 ls st σ k = (popN 2 st [] fun av rest => (catS rest ≤ 8 ∧ 8 < 45 ∧ k.1 + 0 ≤ 601024 ∧ k.2 + 0 ≤ 7293034) ∧ (sp_X11_again) av σ fun v σ' => xk_L_law ct K R n 845 ls (v.toList ++ rest) σ' (k.1 + 0, k.2 + 0)) := exS_step.trans rfl
set_option maxRecDepth 100000 in
theorem ev_L_law_845 {ct : Nat → Bool} {K : Kt} {R : Option AV → Hp → Prop} {n : Nat} {ls : List (Option AV)} {st : List AV} {σ : Hp} {k : Nat × Nat} : xe_L_law ct K R (n + 1) 845 ls st σ k = (lR ls 2 fun x => xk_L_law ct K R n 846 ls (vr x :: st) σ k) := exS_step.trans rfl
set_option maxRecDepth 100000 in
theorem ev_L_law_846 {ct : Nat → Bool} {K : Kt} {R : Option AV → Hp → Prop} {n : Nat} {ls : List (Option AV)} {st : List AV} {σ : Hp} {k : Nat × Nat} : xe_L_law ct K R (n + 1) 846 ls st σ k = (lR ls 0 fun x => xk_L_law ct K R n 847 ls (vr x :: st) σ k) := exS_step.trans rfl
set_option maxRecDepth 100000 in
theorem ev_L_law_847 {ct : Nat → Bool} {K : Kt} {R : Option AV → Hp → Prop} {n : Nat} {ls : List (Option AV)} {st : List AV} {σ : Hp} {k : Nat × Nat} : xe_L_law ct K R (n + 1) 847 ls st σ k = (lI ls 4 fun x => xk_L_law ct K R n 849 ls (vi x :: st) σ k) := exS_step.trans rfl
set_option maxRecDepth 100000 in
theorem ev_L_law_849 {ct : Nat → Bool} {K : Kt} {R : Option AV → Hp → Prop} {n : Nat} {ls : List (Option AV)} {st : List AV} {σ : Hp} {k : Nat × Nat} : xe_L_law ct K R (n + 1) 849 ls st σ k = (xk_L_law ct K R n 850 ls (vi (1) :: st) σ k) := exS_step.trans rfl
set_option maxRecDepth 100000 in
theorem ev_L_law_850 {ct : Nat → Bool} {K : Kt} {R : Option AV → Hp → Prop} {n : Nat} {ls : List (Option AV)} {st : List AV} {σ : Hp} {k : Nat × Nat} : xe_L_law ct K R (n + 1) 850 ls st σ k = (oI st fun y st => oI st fun x st => xk_L_law ct K R n 851 ls (vi (x + y) :: st) σ k) := exS_step.trans rfl
set_option maxRecDepth 100000 in
theorem ev_L_law_851 {ct : Nat → Bool} {K : Kt} {R : Option AV → Hp → Prop} {n : Nat} {ls : List (Option AV)} {st : List AV} {σ : Hp} {k : Nat × Nat} : xe_L_law ct K R (n + 1) 851 ls st σ k = (oI st fun j st => oR st fun x st => (kd σ x = 101 ∨ kd σ x = 108) ∧ (0 ≤ j ∧ j < ln σ x) ∧ xk_L_law ct K R n 852 ls (vi (aI σ x j) :: st) σ k) := exS_step.trans rfl
set_option maxRecDepth 100000 in
theorem ev_L_law_852 {ct : Nat → Bool} {K : Kt} {R : Option AV → Hp → Prop} {n : Nat} {ls : List (Option AV)} {st : List AV} {σ : Hp} {k : Nat × Nat} : xe_L_law ct K R (n + 1) 852 ls st σ k = (popN 2 st [] fun av rest => (catS rest ≤ 8 ∧ 5 < 45 ∧ k.1 + 0 ≤ 601024 ∧ k.2 + 0 ≤ 7293034) ∧ (sp_X12_again) av σ fun v σ' => xk_L_law ct K R n 855 ls (v.toList ++ rest) σ' (k.1 + 0, k.2 + 0)) := exS_step.trans rfl
set_option maxRecDepth 100000 in
theorem ev_L_law_855 {ct : Nat → Bool} {K : Kt} {R : Option AV → Hp → Prop} {n : Nat} {ls : List (Option AV)} {st : List AV} {σ : Hp} {k : Nat × Nat} : xe_L_law ct K R (n + 1) 855 ls st σ k = (oI st fun y st => oI st fun x st => (wI x = wI y → xk_L_law ct K R n 1333 ls st σ k) ∧ (¬ (wI x = wI y) → xk_L_law ct K R n 858 ls st σ k)) := exS_step.trans rfl
set_option maxRecDepth 100000 in
theorem ev_L_law_858 {ct : Nat → Bool} {K : Kt} {R : Option AV → Hp → Prop} {n : Nat} {ls : List (Option AV)} {st : List AV} {σ : Hp} {k : Nat × Nat} : xe_L_law ct K R (n + 1) 858 ls st σ k = (xk_L_law ct K R n 859 ls (vi (0) :: st) σ k) := exS_step.trans rfl
set_option maxRecDepth 100000 in
theorem ev_L_law_859 {ct : Nat → Bool} {K : Kt} {R : Option AV → Hp → Prop} {n : Nat} {ls : List (Option AV)} {st : List AV} {σ : Hp} {k : Nat × Nat} : xe_L_law ct K R (n + 1) 859 ls st σ k = (oI st fun x st => st = [] ∧ (x = 0 ∨ x = 1) ∧ R (some (vi x)) σ) := exS_step.trans rfl
set_option maxRecDepth 100000 in
theorem ev_L_law_860 {ct : Nat → Bool} {K : Kt} {R : Option AV → Hp → Prop} {n : Nat} {ls : List (Option AV)} {st : List AV} {σ : Hp} {k : Nat × Nat} : xe_L_law ct K R (n + 1) 860 ls st σ k = (lR ls 1 fun x => xk_L_law ct K R n 861 ls (vr x :: st) σ k) := exS_step.trans rfl
set_option maxRecDepth 100000 in
theorem ev_L_law_861 {ct : Nat → Bool} {K : Kt} {R : Option AV → Hp → Prop} {n : Nat} {ls : List (Option AV)} {st : List AV} {σ : Hp} {k : Nat × Nat} : xe_L_law ct K R (n + 1) 861 ls st σ k = (lR ls 0 fun x => xk_L_law ct K R n 862 ls (vr x :: st) σ k) := exS_step.trans rfl
set_option maxRecDepth 100000 in
theorem ev_L_law_862 {ct : Nat → Bool} {K : Kt} {R : Option AV → Hp → Prop} {n : Nat} {ls : List (Option AV)} {st : List AV} {σ : Hp} {k : Nat × Nat} : xe_L_law ct K R (n + 1) 862 ls st σ k = (lI ls 4 fun x => xk_L_law ct K R n 864 ls (vi x :: st) σ k) := exS_step.trans rfl
set_option maxRecDepth 100000 in
theorem ev_L_law_864 {ct : Nat → Bool} {K : Kt} {R : Option AV → Hp → Prop} {n : Nat} {ls : List (Option AV)} {st : List AV} {σ : Hp} {k : Nat × Nat} : xe_L_law ct K R (n + 1) 864 ls st σ k = (xk_L_law ct K R n 865 ls (vi (1) :: st) σ k) := exS_step.trans rfl
set_option maxRecDepth 100000 in
theorem ev_L_law_865 {ct : Nat → Bool} {K : Kt} {R : Option AV → Hp → Prop} {n : Nat} {ls : List (Option AV)} {st : List AV} {σ : Hp} {k : Nat × Nat} : xe_L_law ct K R (n + 1) 865 ls st σ k = (oI st fun y st => oI st fun x st => xk_L_law ct K R n 866 ls (vi (x + y) :: st) σ k) := exS_step.trans rfl
set_option maxRecDepth 100000 in
theorem ev_L_law_866 {ct : Nat → Bool} {K : Kt} {R : Option AV → Hp → Prop} {n : Nat} {ls : List (Option AV)} {st : List AV} {σ : Hp} {k : Nat × Nat} : xe_L_law ct K R (n + 1) 866 ls st σ k = (oI st fun j st => oR st fun x st => (kd σ x = 101 ∨ kd σ x = 108) ∧ (0 ≤ j ∧ j < ln σ x) ∧ xk_L_law ct K R n 867 ls (vi (aI σ x j) :: st) σ k) := exS_step.trans rfl
set_option maxRecDepth 100000 in
theorem ev_L_law_867 {ct : Nat → Bool} {K : Kt} {R : Option AV → Hp → Prop} {n : Nat} {ls : List (Option AV)} {st : List AV} {σ : Hp} {k : Nat × Nat} : xe_L_law ct K R (n + 1) 867 ls st σ k = (lR ls 0 fun x => xk_L_law ct K R n 868 ls (vr x :: st) σ k) := exS_step.trans rfl
set_option maxRecDepth 100000 in
theorem ev_L_law_868 {ct : Nat → Bool} {K : Kt} {R : Option AV → Hp → Prop} {n : Nat} {ls : List (Option AV)} {st : List AV} {σ : Hp} {k : Nat × Nat} : xe_L_law ct K R (n + 1) 868 ls st σ k = (lI ls 4 fun x => xk_L_law ct K R n 870 ls (vi x :: st) σ k) := exS_step.trans rfl
set_option maxRecDepth 100000 in
theorem ev_L_law_870 {ct : Nat → Bool} {K : Kt} {R : Option AV → Hp → Prop} {n : Nat} {ls : List (Option AV)} {st : List AV} {σ : Hp} {k : Nat × Nat} : xe_L_law ct K R (n + 1) 870 ls st σ k = (xk_L_law ct K R n 871 ls (vi (2) :: st) σ k) := exS_step.trans rfl
set_option maxRecDepth 100000 in
theorem ev_L_law_871 {ct : Nat → Bool} {K : Kt} {R : Option AV → Hp → Prop} {n : Nat} {ls : List (Option AV)} {st : List AV} {σ : Hp} {k : Nat × Nat} : xe_L_law ct K R (n + 1) 871 ls st σ k = (oI st fun y st => oI st fun x st => xk_L_law ct K R n 872 ls (vi (x + y) :: st) σ k) := exS_step.trans rfl
set_option maxRecDepth 100000 in
theorem ev_L_law_872 {ct : Nat → Bool} {K : Kt} {R : Option AV → Hp → Prop} {n : Nat} {ls : List (Option AV)} {st : List AV} {σ : Hp} {k : Nat × Nat} : xe_L_law ct K R (n + 1) 872 ls st σ k = (oI st fun j st => oR st fun x st => (kd σ x = 101 ∨ kd σ x = 108) ∧ (0 ≤ j ∧ j < ln σ x) ∧ xk_L_law ct K R n 873 ls (vi (aI σ x j) :: st) σ k) := exS_step.trans rfl
set_option maxRecDepth 100000 in
theorem ev_L_law_873 {ct : Nat → Bool} {K : Kt} {R : Option AV → Hp → Prop} {n : Nat} {ls : List (Option AV)} {st : List AV} {σ : Hp} {k : Nat × Nat} : xe_L_law ct K R (n + 1) 873 ls st σ k = (popN 3 st [] fun av rest => (catS rest ≤ 8 ∧ 5 < 45 ∧ k.1 + 0 ≤ 601024 ∧ k.2 + 0 ≤ 7293034) ∧ (sp_X11_sent) av σ fun v σ' => xk_L_law ct K R n 876 ls (v.toList ++ rest) σ' (k.1 + 0, k.2 + 0)) := exS_step.trans rfl
set_option maxRecDepth 100000 in
theorem ev_L_law_876 {ct : Nat → Bool} {K : Kt} {R : Option AV → Hp → Prop} {n : Nat} {ls : List (Option AV)} {st : List AV} {σ : Hp} {k : Nat × Nat} : xe_L_law ct K R (n + 1) 876 ls st σ k = (lR ls 2 fun x => xk_L_law ct K R n 877 ls (vr x :: st) σ k) := exS_step.trans rfl
set_option maxRecDepth 100000 in
theorem ev_L_law_877 {ct : Nat → Bool} {K : Kt} {R : Option AV → Hp → Prop} {n : Nat} {ls : List (Option AV)} {st : List AV} {σ : Hp} {k : Nat × Nat} : xe_L_law ct K R (n + 1) 877 ls st σ k = (lR ls 0 fun x => xk_L_law ct K R n 878 ls (vr x :: st) σ k) := exS_step.trans rfl
set_option maxRecDepth 100000 in
theorem ev_L_law_878 {ct : Nat → Bool} {K : Kt} {R : Option AV → Hp → Prop} {n : Nat} {ls : List (Option AV)} {st : List AV} {σ : Hp} {k : Nat × Nat} : xe_L_law ct K R (n + 1) 878 ls st σ k = (lI ls 4 fun x => xk_L_law ct K R n 880 ls (vi x :: st) σ k) := exS_step.trans rfl
set_option maxRecDepth 100000 in
theorem ev_L_law_880 {ct : Nat → Bool} {K : Kt} {R : Option AV → Hp → Prop} {n : Nat} {ls : List (Option AV)} {st : List AV} {σ : Hp} {k : Nat × Nat} : xe_L_law ct K R (n + 1) 880 ls st σ k = (xk_L_law ct K R n 881 ls (vi (1) :: st) σ k) := exS_step.trans rfl
set_option maxRecDepth 100000 in
theorem ev_L_law_881 {ct : Nat → Bool} {K : Kt} {R : Option AV → Hp → Prop} {n : Nat} {ls : List (Option AV)} {st : List AV} {σ : Hp} {k : Nat × Nat} : xe_L_law ct K R (n + 1) 881 ls st σ k = (oI st fun y st => oI st fun x st => xk_L_law ct K R n 882 ls (vi (x + y) :: st) σ k) := exS_step.trans rfl
set_option maxRecDepth 100000 in
theorem ev_L_law_882 {ct : Nat → Bool} {K : Kt} {R : Option AV → Hp → Prop} {n : Nat} {ls : List (Option AV)} {st : List AV} {σ : Hp} {k : Nat × Nat} : xe_L_law ct K R (n + 1) 882 ls st σ k = (oI st fun j st => oR st fun x st => (kd σ x = 101 ∨ kd σ x = 108) ∧ (0 ≤ j ∧ j < ln σ x) ∧ xk_L_law ct K R n 883 ls (vi (aI σ x j) :: st) σ k) := exS_step.trans rfl
set_option maxRecDepth 100000 in
theorem ev_L_law_883 {ct : Nat → Bool} {K : Kt} {R : Option AV → Hp → Prop} {n : Nat} {ls : List (Option AV)} {st : List AV} {σ : Hp} {k : Nat × Nat} : xe_L_law ct K R (n + 1) 883 ls st σ k = (lR ls 0 fun x => xk_L_law ct K R n 884 ls (vr x :: st) σ k) := exS_step.trans rfl
set_option maxRecDepth 100000 in
theorem ev_L_law_884 {ct : Nat → Bool} {K : Kt} {R : Option AV → Hp → Prop} {n : Nat} {ls : List (Option AV)} {st : List AV} {σ : Hp} {k : Nat × Nat} : xe_L_law ct K R (n + 1) 884 ls st σ k = (lI ls 4 fun x => xk_L_law ct K R n 886 ls (vi x :: st) σ k) := exS_step.trans rfl
set_option maxRecDepth 100000 in
theorem ev_L_law_886 {ct : Nat → Bool} {K : Kt} {R : Option AV → Hp → Prop} {n : Nat} {ls : List (Option AV)} {st : List AV} {σ : Hp} {k : Nat × Nat} : xe_L_law ct K R (n + 1) 886 ls st σ k = (xk_L_law ct K R n 887 ls (vi (2) :: st) σ k) := exS_step.trans rfl
set_option maxRecDepth 100000 in
theorem ev_L_law_887 {ct : Nat → Bool} {K : Kt} {R : Option AV → Hp → Prop} {n : Nat} {ls : List (Option AV)} {st : List AV} {σ : Hp} {k : Nat × Nat} : xe_L_law ct K R (n + 1) 887 ls st σ k = (oI st fun y st => oI st fun x st => xk_L_law ct K R n 888 ls (vi (x + y) :: st) σ k) := exS_step.trans rfl
set_option maxRecDepth 100000 in
theorem ev_L_law_888 {ct : Nat → Bool} {K : Kt} {R : Option AV → Hp → Prop} {n : Nat} {ls : List (Option AV)} {st : List AV} {σ : Hp} {k : Nat × Nat} : xe_L_law ct K R (n + 1) 888 ls st σ k = (oI st fun j st => oR st fun x st => (kd σ x = 101 ∨ kd σ x = 108) ∧ (0 ≤ j ∧ j < ln σ x) ∧ xk_L_law ct K R n 889 ls (vi (aI σ x j) :: st) σ k) := exS_step.trans rfl
set_option maxRecDepth 100000 in
theorem ev_L_law_889 {ct : Nat → Bool} {K : Kt} {R : Option AV → Hp → Prop} {n : Nat} {ls : List (Option AV)} {st : List AV} {σ : Hp} {k : Nat × Nat} : xe_L_law ct K R (n + 1) 889 ls st σ k = (popN 3 st [] fun av rest => (catS rest ≤ 8 ∧ 3 < 45 ∧ k.1 + 0 ≤ 601024 ∧ k.2 + 0 ≤ 7293034) ∧ (sp_X12_sent) av σ fun v σ' => xk_L_law ct K R n 892 ls (v.toList ++ rest) σ' (k.1 + 0, k.2 + 0)) := exS_step.trans rfl
set_option maxRecDepth 100000 in
theorem ev_L_law_892 {ct : Nat → Bool} {K : Kt} {R : Option AV → Hp → Prop} {n : Nat} {ls : List (Option AV)} {st : List AV} {σ : Hp} {k : Nat × Nat} : xe_L_law ct K R (n + 1) 892 ls st σ k = (oI st fun y st => oI st fun x st => (wI x = wI y → xk_L_law ct K R n 1333 ls st σ k) ∧ (¬ (wI x = wI y) → xk_L_law ct K R n 895 ls st σ k)) := exS_step.trans rfl
set_option maxRecDepth 100000 in
theorem ev_L_law_895 {ct : Nat → Bool} {K : Kt} {R : Option AV → Hp → Prop} {n : Nat} {ls : List (Option AV)} {st : List AV} {σ : Hp} {k : Nat × Nat} : xe_L_law ct K R (n + 1) 895 ls st σ k = (xk_L_law ct K R n 896 ls (vi (0) :: st) σ k) := exS_step.trans rfl
set_option maxRecDepth 100000 in
theorem ev_L_law_896 {ct : Nat → Bool} {K : Kt} {R : Option AV → Hp → Prop} {n : Nat} {ls : List (Option AV)} {st : List AV} {σ : Hp} {k : Nat × Nat} : xe_L_law ct K R (n + 1) 896 ls st σ k = (oI st fun x st => st = [] ∧ (x = 0 ∨ x = 1) ∧ R (some (vi x)) σ) := exS_step.trans rfl
set_option maxRecDepth 100000 in
theorem ev_L_law_897 {ct : Nat → Bool} {K : Kt} {R : Option AV → Hp → Prop} {n : Nat} {ls : List (Option AV)} {st : List AV} {σ : Hp} {k : Nat × Nat} : xe_L_law ct K R (n + 1) 897 ls st σ k = (lR ls 1 fun x => xk_L_law ct K R n 898 ls (vr x :: st) σ k) := exS_step.trans rfl
set_option maxRecDepth 100000 in
theorem ev_L_law_898 {ct : Nat → Bool} {K : Kt} {R : Option AV → Hp → Prop} {n : Nat} {ls : List (Option AV)} {st : List AV} {σ : Hp} {k : Nat × Nat} : xe_L_law ct K R (n + 1) 898 ls st σ k = (lR ls 0 fun x => xk_L_law ct K R n 899 ls (vr x :: st) σ k) := exS_step.trans rfl
set_option maxRecDepth 100000 in
theorem ev_L_law_899 {ct : Nat → Bool} {K : Kt} {R : Option AV → Hp → Prop} {n : Nat} {ls : List (Option AV)} {st : List AV} {σ : Hp} {k : Nat × Nat} : xe_L_law ct K R (n + 1) 899 ls st σ k = (lI ls 4 fun x => xk_L_law ct K R n 901 ls (vi x :: st) σ k) := exS_step.trans rfl
set_option maxRecDepth 100000 in
theorem ev_L_law_901 {ct : Nat → Bool} {K : Kt} {R : Option AV → Hp → Prop} {n : Nat} {ls : List (Option AV)} {st : List AV} {σ : Hp} {k : Nat × Nat} : xe_L_law ct K R (n + 1) 901 ls st σ k = (xk_L_law ct K R n 902 ls (vi (1) :: st) σ k) := exS_step.trans rfl
set_option maxRecDepth 100000 in
theorem ev_L_law_902 {ct : Nat → Bool} {K : Kt} {R : Option AV → Hp → Prop} {n : Nat} {ls : List (Option AV)} {st : List AV} {σ : Hp} {k : Nat × Nat} : xe_L_law ct K R (n + 1) 902 ls st σ k = (oI st fun y st => oI st fun x st => xk_L_law ct K R n 903 ls (vi (x + y) :: st) σ k) := exS_step.trans rfl
set_option maxRecDepth 100000 in
theorem ev_L_law_903 {ct : Nat → Bool} {K : Kt} {R : Option AV → Hp → Prop} {n : Nat} {ls : List (Option AV)} {st : List AV} {σ : Hp} {k : Nat × Nat} : xe_L_law ct K R (n + 1) 903 ls st σ k = (oI st fun j st => oR st fun x st => (kd σ x = 101 ∨ kd σ x = 108) ∧ (0 ≤ j ∧ j < ln σ x) ∧ xk_L_law ct K R n 904 ls (vi (aI σ x j) :: st) σ k) := exS_step.trans rfl
set_option maxRecDepth 100000 in
theorem ev_L_law_904 {ct : Nat → Bool} {K : Kt} {R : Option AV → Hp → Prop} {n : Nat} {ls : List (Option AV)} {st : List AV} {σ : Hp} {k : Nat × Nat} : xe_L_law ct K R (n + 1) 904 ls st σ k = (lR ls 0 fun x => xk_L_law ct K R n 905 ls (vr x :: st) σ k) := exS_step.trans rfl
set_option maxRecDepth 100000 in
theorem ev_L_law_905 {ct : Nat → Bool} {K : Kt} {R : Option AV → Hp → Prop} {n : Nat} {ls : List (Option AV)} {st : List AV} {σ : Hp} {k : Nat × Nat} : xe_L_law ct K R (n + 1) 905 ls st σ k = (lI ls 4 fun x => xk_L_law ct K R n 907 ls (vi x :: st) σ k) := exS_step.trans rfl
set_option maxRecDepth 100000 in
theorem ev_L_law_907 {ct : Nat → Bool} {K : Kt} {R : Option AV → Hp → Prop} {n : Nat} {ls : List (Option AV)} {st : List AV} {σ : Hp} {k : Nat × Nat} : xe_L_law ct K R (n + 1) 907 ls st σ k = (xk_L_law ct K R n 908 ls (vi (2) :: st) σ k) := exS_step.trans rfl
set_option maxRecDepth 100000 in
theorem ev_L_law_908 {ct : Nat → Bool} {K : Kt} {R : Option AV → Hp → Prop} {n : Nat} {ls : List (Option AV)} {st : List AV} {σ : Hp} {k : Nat × Nat} : xe_L_law ct K R (n + 1) 908 ls st σ k = (oI st fun y st => oI st fun x st => xk_L_law ct K R n 909 ls (vi (x + y) :: st) σ k) := exS_step.trans rfl
set_option maxRecDepth 100000 in
theorem ev_L_law_909 {ct : Nat → Bool} {K : Kt} {R : Option AV → Hp → Prop} {n : Nat} {ls : List (Option AV)} {st : List AV} {σ : Hp} {k : Nat × Nat} : xe_L_law ct K R (n + 1) 909 ls st σ k = (oI st fun j st => oR st fun x st => (kd σ x = 101 ∨ kd σ x = 108) ∧ (0 ≤ j ∧ j < ln σ x) ∧ xk_L_law ct K R n 910 ls (vi (aI σ x j) :: st) σ k) := exS_step.trans rfl
set_option maxRecDepth 100000 in
theorem ev_L_law_910 {ct : Nat → Bool} {K : Kt} {R : Option AV → Hp → Prop} {n : Nat} {ls : List (Option AV)} {st : List AV} {σ : Hp} {k : Nat × Nat} : xe_L_law ct K R (n + 1) 910 ls st σ k = (oI st fun x st => (wI x = wI 0 → xk_L_law ct K R n 917 ls st σ k) ∧ (¬ (wI x = wI 0) → xk_L_law ct K R n 913 ls st σ k)) := exS_step.trans rfl
set_option maxRecDepth 100000 in
theorem ev_L_law_913 {ct : Nat → Bool} {K : Kt} {R : Option AV → Hp → Prop} {n : Nat} {ls : List (Option AV)} {st : List AV} {σ : Hp} {k : Nat × Nat} : xe_L_law ct K R (n + 1) 913 ls st σ k = (xk_L_law ct K R n 914 ls (vi (1) :: st) σ k) := exS_step.trans rfl
set_option maxRecDepth 100000 in
theorem ev_L_law_914 {ct : Nat → Bool} {K : Kt} {R : Option AV → Hp → Prop} {n : Nat} {ls : List (Option AV)} {st : List AV} {σ : Hp} {k : Nat × Nat} : xe_L_law ct K R (n + 1) 914 ls st σ k = (xk_L_law ct K R n 918 ls st σ k) := exS_step.trans rfl
set_option maxRecDepth 100000 in
theorem ev_L_law_917 {ct : Nat → Bool} {K : Kt} {R : Option AV → Hp → Prop} {n : Nat} {ls : List (Option AV)} {st : List AV} {σ : Hp} {k : Nat × Nat} : xe_L_law ct K R (n + 1) 917 ls st σ k = (xk_L_law ct K R n 918 ls (vi (0) :: st) σ k) := exS_step.trans rfl
set_option maxRecDepth 100000 in
theorem ev_L_law_918 {ct : Nat → Bool} {K : Kt} {R : Option AV → Hp → Prop} {n : Nat} {ls : List (Option AV)} {st : List AV} {σ : Hp} {k : Nat × Nat} : xe_L_law ct K R (n + 1) 918 ls st σ k = (popN 3 st [] fun av rest => (catS rest ≤ 8 ∧ 6 < 45 ∧ k.1 + 0 ≤ 601024 ∧ k.2 + 0 ≤ 7293034) ∧ (sp_X11_over) av σ fun v σ' => xk_L_law ct K R n 921 ls (v.toList ++ rest) σ' (k.1 + 0, k.2 + 0)) := exS_step.trans rfl
set_option maxRecDepth 100000 in
theorem ev_L_law_921 {ct : Nat → Bool} {K : Kt} {R : Option AV → Hp → Prop} {n : Nat} {ls : List (Option AV)} {st : List AV} {σ : Hp} {k : Nat × Nat} : xe_L_law ct K R (n + 1) 921 ls st σ k = (lR ls 2 fun x => xk_L_law ct K R n 922 ls (vr x :: st) σ k) := exS_step.trans rfl
set_option maxRecDepth 100000 in
theorem ev_L_law_922 {ct : Nat → Bool} {K : Kt} {R : Option AV → Hp → Prop} {n : Nat} {ls : List (Option AV)} {st : List AV} {σ : Hp} {k : Nat × Nat} : xe_L_law ct K R (n + 1) 922 ls st σ k = (lR ls 0 fun x => xk_L_law ct K R n 923 ls (vr x :: st) σ k) := exS_step.trans rfl
set_option maxRecDepth 100000 in
theorem ev_L_law_923 {ct : Nat → Bool} {K : Kt} {R : Option AV → Hp → Prop} {n : Nat} {ls : List (Option AV)} {st : List AV} {σ : Hp} {k : Nat × Nat} : xe_L_law ct K R (n + 1) 923 ls st σ k = (lI ls 4 fun x => xk_L_law ct K R n 925 ls (vi x :: st) σ k) := exS_step.trans rfl
set_option maxRecDepth 100000 in
theorem ev_L_law_925 {ct : Nat → Bool} {K : Kt} {R : Option AV → Hp → Prop} {n : Nat} {ls : List (Option AV)} {st : List AV} {σ : Hp} {k : Nat × Nat} : xe_L_law ct K R (n + 1) 925 ls st σ k = (xk_L_law ct K R n 926 ls (vi (1) :: st) σ k) := exS_step.trans rfl
set_option maxRecDepth 100000 in
theorem ev_L_law_926 {ct : Nat → Bool} {K : Kt} {R : Option AV → Hp → Prop} {n : Nat} {ls : List (Option AV)} {st : List AV} {σ : Hp} {k : Nat × Nat} : xe_L_law ct K R (n + 1) 926 ls st σ k = (oI st fun y st => oI st fun x st => xk_L_law ct K R n 927 ls (vi (x + y) :: st) σ k) := exS_step.trans rfl
set_option maxRecDepth 100000 in
theorem ev_L_law_927 {ct : Nat → Bool} {K : Kt} {R : Option AV → Hp → Prop} {n : Nat} {ls : List (Option AV)} {st : List AV} {σ : Hp} {k : Nat × Nat} : xe_L_law ct K R (n + 1) 927 ls st σ k = (oI st fun j st => oR st fun x st => (kd σ x = 101 ∨ kd σ x = 108) ∧ (0 ≤ j ∧ j < ln σ x) ∧ xk_L_law ct K R n 928 ls (vi (aI σ x j) :: st) σ k) := exS_step.trans rfl
set_option maxRecDepth 100000 in
theorem ev_L_law_928 {ct : Nat → Bool} {K : Kt} {R : Option AV → Hp → Prop} {n : Nat} {ls : List (Option AV)} {st : List AV} {σ : Hp} {k : Nat × Nat} : xe_L_law ct K R (n + 1) 928 ls st σ k = (lR ls 0 fun x => xk_L_law ct K R n 929 ls (vr x :: st) σ k) := exS_step.trans rfl
set_option maxRecDepth 100000 in
theorem ev_L_law_929 {ct : Nat → Bool} {K : Kt} {R : Option AV → Hp → Prop} {n : Nat} {ls : List (Option AV)} {st : List AV} {σ : Hp} {k : Nat × Nat} : xe_L_law ct K R (n + 1) 929 ls st σ k = (lI ls 4 fun x => xk_L_law ct K R n 931 ls (vi x :: st) σ k) := exS_step.trans rfl
set_option maxRecDepth 100000 in
theorem ev_L_law_931 {ct : Nat → Bool} {K : Kt} {R : Option AV → Hp → Prop} {n : Nat} {ls : List (Option AV)} {st : List AV} {σ : Hp} {k : Nat × Nat} : xe_L_law ct K R (n + 1) 931 ls st σ k = (xk_L_law ct K R n 932 ls (vi (2) :: st) σ k) := exS_step.trans rfl
set_option maxRecDepth 100000 in
theorem ev_L_law_932 {ct : Nat → Bool} {K : Kt} {R : Option AV → Hp → Prop} {n : Nat} {ls : List (Option AV)} {st : List AV} {σ : Hp} {k : Nat × Nat} : xe_L_law ct K R (n + 1) 932 ls st σ k = (oI st fun y st => oI st fun x st => xk_L_law ct K R n 933 ls (vi (x + y) :: st) σ k) := exS_step.trans rfl
set_option maxRecDepth 100000 in
theorem ev_L_law_933 {ct : Nat → Bool} {K : Kt} {R : Option AV → Hp → Prop} {n : Nat} {ls : List (Option AV)} {st : List AV} {σ : Hp} {k : Nat × Nat} : xe_L_law ct K R (n + 1) 933 ls st σ k = (oI st fun j st => oR st fun x st => (kd σ x = 101 ∨ kd σ x = 108) ∧ (0 ≤ j ∧ j < ln σ x) ∧ xk_L_law ct K R n 934 ls (vi (aI σ x j) :: st) σ k) := exS_step.trans rfl
set_option maxRecDepth 100000 in
theorem ev_L_law_934 {ct : Nat → Bool} {K : Kt} {R : Option AV → Hp → Prop} {n : Nat} {ls : List (Option AV)} {st : List AV} {σ : Hp} {k : Nat × Nat} : xe_L_law ct K R (n + 1) 934 ls st σ k = (oI st fun x st => (wI x = wI 0 → xk_L_law ct K R n 941 ls st σ k) ∧ (¬ (wI x = wI 0) → xk_L_law ct K R n 937 ls st σ k)) := exS_step.trans rfl
set_option maxRecDepth 100000 in
theorem ev_L_law_937 {ct : Nat → Bool} {K : Kt} {R : Option AV → Hp → Prop} {n : Nat} {ls : List (Option AV)} {st : List AV} {σ : Hp} {k : Nat × Nat} : xe_L_law ct K R (n + 1) 937 ls st σ k = (xk_L_law ct K R n 938 ls (vi (1) :: st) σ k) := exS_step.trans rfl
set_option maxRecDepth 100000 in
theorem ev_L_law_938 {ct : Nat → Bool} {K : Kt} {R : Option AV → Hp → Prop} {n : Nat} {ls : List (Option AV)} {st : List AV} {σ : Hp} {k : Nat × Nat} : xe_L_law ct K R (n + 1) 938 ls st σ k = (xk_L_law ct K R n 942 ls st σ k) := exS_step.trans rfl
set_option maxRecDepth 100000 in
theorem ev_L_law_941 {ct : Nat → Bool} {K : Kt} {R : Option AV → Hp → Prop} {n : Nat} {ls : List (Option AV)} {st : List AV} {σ : Hp} {k : Nat × Nat} : xe_L_law ct K R (n + 1) 941 ls st σ k = (xk_L_law ct K R n 942 ls (vi (0) :: st) σ k) := exS_step.trans rfl
set_option maxRecDepth 100000 in
theorem ev_L_law_942 {ct : Nat → Bool} {K : Kt} {R : Option AV → Hp → Prop} {n : Nat} {ls : List (Option AV)} {st : List AV} {σ : Hp} {k : Nat × Nat} : xe_L_law ct K R (n + 1) 942 ls st σ k = (popN 3 st [] fun av rest => (catS rest ≤ 8 ∧ 3 < 45 ∧ k.1 + 0 ≤ 601024 ∧ k.2 + 0 ≤ 7293034) ∧ (sp_X12_over) av σ fun v σ' => xk_L_law ct K R n 945 ls (v.toList ++ rest) σ' (k.1 + 0, k.2 + 0)) := exS_step.trans rfl
set_option maxRecDepth 100000 in
theorem ev_L_law_945 {ct : Nat → Bool} {K : Kt} {R : Option AV → Hp → Prop} {n : Nat} {ls : List (Option AV)} {st : List AV} {σ : Hp} {k : Nat × Nat} : xe_L_law ct K R (n + 1) 945 ls st σ k = (oI st fun y st => oI st fun x st => (wI x = wI y → xk_L_law ct K R n 1333 ls st σ k) ∧ (¬ (wI x = wI y) → xk_L_law ct K R n 948 ls st σ k)) := exS_step.trans rfl
set_option maxRecDepth 100000 in
theorem ev_L_law_948 {ct : Nat → Bool} {K : Kt} {R : Option AV → Hp → Prop} {n : Nat} {ls : List (Option AV)} {st : List AV} {σ : Hp} {k : Nat × Nat} : xe_L_law ct K R (n + 1) 948 ls st σ k = (xk_L_law ct K R n 949 ls (vi (0) :: st) σ k) := exS_step.trans rfl
set_option maxRecDepth 100000 in
theorem ev_L_law_949 {ct : Nat → Bool} {K : Kt} {R : Option AV → Hp → Prop} {n : Nat} {ls : List (Option AV)} {st : List AV} {σ : Hp} {k : Nat × Nat} : xe_L_law ct K R (n + 1) 949 ls st σ k = (oI st fun x st => st = [] ∧ (x = 0 ∨ x = 1) ∧ R (some (vi x)) σ) := exS_step.trans rfl
set_option maxRecDepth 100000 in
theorem ev_L_law_950 {ct : Nat → Bool} {K : Kt} {R : Option AV → Hp → Prop} {n : Nat} {ls : List (Option AV)} {st : List AV} {σ : Hp} {k : Nat × Nat} : xe_L_law ct K R (n + 1) 950 ls st σ k = (lR ls 1 fun x => xk_L_law ct K R n 951 ls (vr x :: st) σ k) := exS_step.trans rfl
set_option maxRecDepth 100000 in
theorem ev_L_law_951 {ct : Nat → Bool} {K : Kt} {R : Option AV → Hp → Prop} {n : Nat} {ls : List (Option AV)} {st : List AV} {σ : Hp} {k : Nat × Nat} : xe_L_law ct K R (n + 1) 951 ls st σ k = (lR ls 0 fun x => xk_L_law ct K R n 952 ls (vr x :: st) σ k) := exS_step.trans rfl
set_option maxRecDepth 100000 in
theorem ev_L_law_952 {ct : Nat → Bool} {K : Kt} {R : Option AV → Hp → Prop} {n : Nat} {ls : List (Option AV)} {st : List AV} {σ : Hp} {k : Nat × Nat} : xe_L_law ct K R (n + 1) 952 ls st σ k = (lI ls 4 fun x => xk_L_law ct K R n 954 ls (vi x :: st) σ k) := exS_step.trans rfl
set_option maxRecDepth 100000 in
theorem ev_L_law_954 {ct : Nat → Bool} {K : Kt} {R : Option AV → Hp → Prop} {n : Nat} {ls : List (Option AV)} {st : List AV} {σ : Hp} {k : Nat × Nat} : xe_L_law ct K R (n + 1) 954 ls st σ k = (xk_L_law ct K R n 955 ls (vi (1) :: st) σ k) := exS_step.trans rfl
set_option maxRecDepth 100000 in
theorem ev_L_law_955 {ct : Nat → Bool} {K : Kt} {R : Option AV → Hp → Prop} {n : Nat} {ls : List (Option AV)} {st : List AV} {σ : Hp} {k : Nat × Nat} : xe_L_law ct K R (n + 1) 955 ls st σ k = (oI st fun y st => oI st fun x st => xk_L_law ct K R n 956 ls (vi (x + y) :: st) σ k) := exS_step.trans rfl
set_option maxRecDepth 100000 in
theorem ev_L_law_956 {ct : Nat → Bool} {K : Kt} {R : Option AV → Hp → Prop} {n : Nat} {ls : List (Option AV)} {st : List AV} {σ : Hp} {k : Nat × Nat} : xe_L_law ct K R (n + 1) 956 ls st σ k = (oI st fun j st => oR st fun x st => (kd σ x = 101 ∨ kd σ x = 108) ∧ (0 ≤ j ∧ j < ln σ x) ∧ xk_L_law ct K R n 957 ls (vi (aI σ x j) :: st) σ k) := exS_step.trans rfl
set_option maxRecDepth 100000 in
theorem ev_L_law_957 {ct : Nat → Bool} {K : Kt} {R : Option AV → Hp → Prop} {n : Nat} {ls : List (Option AV)} {st : List AV} {σ : Hp} {k : Nat × Nat} : xe_L_law ct K R (n + 1) 957 ls st σ k = (popN 2 st [] fun av rest => (catS rest ≤ 8 ∧ 5 < 45 ∧ k.1 + 0 ≤ 601024 ∧ k.2 + 0 ≤ 7293034) ∧ (sp_X11_at) av σ fun v σ' => xk_L_law ct K R n 960 ls (v.toList ++ rest) σ' (k.1 + 0, k.2 + 0)) := exS_step.trans rfl
set_option maxRecDepth 100000 in
theorem ev_L_law_960 {ct : Nat → Bool} {K : Kt} {R : Option AV → Hp → Prop} {n : Nat} {ls : List (Option AV)} {st : List AV} {σ : Hp} {k : Nat × Nat} : xe_L_law ct K R (n + 1) 960 ls st σ k = (lR ls 2 fun x => xk_L_law ct K R n 961 ls (vr x :: st) σ k) := exS_step.trans rfl
set_option maxRecDepth 100000 in
theorem ev_L_law_961 {ct : Nat → Bool} {K : Kt} {R : Option AV → Hp → Prop} {n : Nat} {ls : List (Option AV)} {st : List AV} {σ : Hp} {k : Nat × Nat} : xe_L_law ct K R (n + 1) 961 ls st σ k = (lR ls 0 fun x => xk_L_law ct K R n 962 ls (vr x :: st) σ k) := exS_step.trans rfl
set_option maxRecDepth 100000 in
theorem ev_L_law_962 {ct : Nat → Bool} {K : Kt} {R : Option AV → Hp → Prop} {n : Nat} {ls : List (Option AV)} {st : List AV} {σ : Hp} {k : Nat × Nat} : xe_L_law ct K R (n + 1) 962 ls st σ k = (lI ls 4 fun x => xk_L_law ct K R n 964 ls (vi x :: st) σ k) := exS_step.trans rfl
set_option maxRecDepth 100000 in
theorem ev_L_law_964 {ct : Nat → Bool} {K : Kt} {R : Option AV → Hp → Prop} {n : Nat} {ls : List (Option AV)} {st : List AV} {σ : Hp} {k : Nat × Nat} : xe_L_law ct K R (n + 1) 964 ls st σ k = (xk_L_law ct K R n 965 ls (vi (1) :: st) σ k) := exS_step.trans rfl
set_option maxRecDepth 100000 in
theorem ev_L_law_965 {ct : Nat → Bool} {K : Kt} {R : Option AV → Hp → Prop} {n : Nat} {ls : List (Option AV)} {st : List AV} {σ : Hp} {k : Nat × Nat} : xe_L_law ct K R (n + 1) 965 ls st σ k = (oI st fun y st => oI st fun x st => xk_L_law ct K R n 966 ls (vi (x + y) :: st) σ k) := exS_step.trans rfl
set_option maxRecDepth 100000 in
theorem ev_L_law_966 {ct : Nat → Bool} {K : Kt} {R : Option AV → Hp → Prop} {n : Nat} {ls : List (Option AV)} {st : List AV} {σ : Hp} {k : Nat × Nat} : xe_L_law ct K R (n + 1) 966 ls st σ k = (oI st fun j st => oR st fun x st => (kd σ x = 101 ∨ kd σ x = 108) ∧ (0 ≤ j ∧ j < ln σ x) ∧ xk_L_law ct K R n 967 ls (vi (aI σ x j) :: st) σ k) := exS_step.trans rfl
set_option maxRecDepth 100000 in
theorem ev_L_law_967 {ct : Nat → Bool} {K : Kt} {R : Option AV → Hp → Prop} {n : Nat} {ls : List (Option AV)} {st : List AV} {σ : Hp} {k : Nat × Nat} : xe_L_law ct K R (n + 1) 967 ls st σ k = (popN 2 st [] fun av rest => (catS rest ≤ 8 ∧ 3 < 45 ∧ k.1 + 0 ≤ 601024 ∧ k.2 + 0 ≤ 7293034) ∧ (sp_X12_at) av σ fun v σ' => xk_L_law ct K R n 970 ls (v.toList ++ rest) σ' (k.1 + 0, k.2 + 0)) := exS_step.trans rfl
set_option maxRecDepth 100000 in
theorem ev_L_law_970 {ct : Nat → Bool} {K : Kt} {R : Option AV → Hp → Prop} {n : Nat} {ls : List (Option AV)} {st : List AV} {σ : Hp} {k : Nat × Nat} : xe_L_law ct K R (n + 1) 970 ls st σ k = (oI st fun y st => oI st fun x st => (wI x = wI y → xk_L_law ct K R n 1333 ls st σ k) ∧ (¬ (wI x = wI y) → xk_L_law ct K R n 973 ls st σ k)) := exS_step.trans rfl
set_option maxRecDepth 100000 in
theorem ev_L_law_973 {ct : Nat → Bool} {K : Kt} {R : Option AV → Hp → Prop} {n : Nat} {ls : List (Option AV)} {st : List AV} {σ : Hp} {k : Nat × Nat} : xe_L_law ct K R (n + 1) 973 ls st σ k = (xk_L_law ct K R n 974 ls (vi (0) :: st) σ k) := exS_step.trans rfl
set_option maxRecDepth 100000 in
theorem ev_L_law_974 {ct : Nat → Bool} {K : Kt} {R : Option AV → Hp → Prop} {n : Nat} {ls : List (Option AV)} {st : List AV} {σ : Hp} {k : Nat × Nat} : xe_L_law ct K R (n + 1) 974 ls st σ k = (oI st fun x st => st = [] ∧ (x = 0 ∨ x = 1) ∧ R (some (vi x)) σ) := exS_step.trans rfl
set_option maxRecDepth 100000 in
theorem ev_L_law_975 {ct : Nat → Bool} {K : Kt} {R : Option AV → Hp → Prop} {n : Nat} {ls : List (Option AV)} {st : List AV} {σ : Hp} {k : Nat × Nat} : xe_L_law ct K R (n + 1) 975 ls st σ k = (lR ls 1 fun x => xk_L_law ct K R n 976 ls (vr x :: st) σ k) := exS_step.trans rfl
set_option maxRecDepth 100000 in
theorem ev_L_law_976 {ct : Nat → Bool} {K : Kt} {R : Option AV → Hp → Prop} {n : Nat} {ls : List (Option AV)} {st : List AV} {σ : Hp} {k : Nat × Nat} : xe_L_law ct K R (n + 1) 976 ls st σ k = (lR ls 0 fun x => xk_L_law ct K R n 977 ls (vr x :: st) σ k) := exS_step.trans rfl
set_option maxRecDepth 100000 in
theorem ev_L_law_977 {ct : Nat → Bool} {K : Kt} {R : Option AV → Hp → Prop} {n : Nat} {ls : List (Option AV)} {st : List AV} {σ : Hp} {k : Nat × Nat} : xe_L_law ct K R (n + 1) 977 ls st σ k = (lI ls 4 fun x => xk_L_law ct K R n 979 ls (vi x :: st) σ k) := exS_step.trans rfl
set_option maxRecDepth 100000 in
theorem ev_L_law_979 {ct : Nat → Bool} {K : Kt} {R : Option AV → Hp → Prop} {n : Nat} {ls : List (Option AV)} {st : List AV} {σ : Hp} {k : Nat × Nat} : xe_L_law ct K R (n + 1) 979 ls st σ k = (xk_L_law ct K R n 980 ls (vi (1) :: st) σ k) := exS_step.trans rfl
set_option maxRecDepth 100000 in
theorem ev_L_law_980 {ct : Nat → Bool} {K : Kt} {R : Option AV → Hp → Prop} {n : Nat} {ls : List (Option AV)} {st : List AV} {σ : Hp} {k : Nat × Nat} : xe_L_law ct K R (n + 1) 980 ls st σ k = (oI st fun y st => oI st fun x st => xk_L_law ct K R n 981 ls (vi (x + y) :: st) σ k) := exS_step.trans rfl
set_option maxRecDepth 100000 in
theorem ev_L_law_981 {ct : Nat → Bool} {K : Kt} {R : Option AV → Hp → Prop} {n : Nat} {ls : List (Option AV)} {st : List AV} {σ : Hp} {k : Nat × Nat} : xe_L_law ct K R (n + 1) 981 ls st σ k = (oI st fun j st => oR st fun x st => (kd σ x = 101 ∨ kd σ x = 108) ∧ (0 ≤ j ∧ j < ln σ x) ∧ xk_L_law ct K R n 982 ls (vi (aI σ x j) :: st) σ k) := exS_step.trans rfl
set_option maxRecDepth 100000 in
theorem ev_L_law_982 {ct : Nat → Bool} {K : Kt} {R : Option AV → Hp → Prop} {n : Nat} {ls : List (Option AV)} {st : List AV} {σ : Hp} {k : Nat × Nat} : xe_L_law ct K R (n + 1) 982 ls st σ k = (popN 2 st [] fun av rest => (catS rest ≤ 8 ∧ 5 < 45 ∧ k.1 + 0 ≤ 601024 ∧ k.2 + 0 ≤ 7293034) ∧ (sp_X11_there) av σ fun v σ' => xk_L_law ct K R n 985 ls (v.toList ++ rest) σ' (k.1 + 0, k.2 + 0)) := exS_step.trans rfl
set_option maxRecDepth 100000 in
theorem ev_L_law_985 {ct : Nat → Bool} {K : Kt} {R : Option AV → Hp → Prop} {n : Nat} {ls : List (Option AV)} {st : List AV} {σ : Hp} {k : Nat × Nat} : xe_L_law ct K R (n + 1) 985 ls st σ k = (lR ls 2 fun x => xk_L_law ct K R n 986 ls (vr x :: st) σ k) := exS_step.trans rfl
set_option maxRecDepth 100000 in
theorem ev_L_law_986 {ct : Nat → Bool} {K : Kt} {R : Option AV → Hp → Prop} {n : Nat} {ls : List (Option AV)} {st : List AV} {σ : Hp} {k : Nat × Nat} : xe_L_law ct K R (n + 1) 986 ls st σ k = (lR ls 0 fun x => xk_L_law ct K R n 987 ls (vr x :: st) σ k) := exS_step.trans rfl
set_option maxRecDepth 100000 in
theorem ev_L_law_987 {ct : Nat → Bool} {K : Kt} {R : Option AV → Hp → Prop} {n : Nat} {ls : List (Option AV)} {st : List AV} {σ : Hp} {k : Nat × Nat} : xe_L_law ct K R (n + 1) 987 ls st σ k = (lI ls 4 fun x => xk_L_law ct K R n 989 ls (vi x :: st) σ k) := exS_step.trans rfl
set_option maxRecDepth 100000 in
theorem ev_L_law_989 {ct : Nat → Bool} {K : Kt} {R : Option AV → Hp → Prop} {n : Nat} {ls : List (Option AV)} {st : List AV} {σ : Hp} {k : Nat × Nat} : xe_L_law ct K R (n + 1) 989 ls st σ k = (xk_L_law ct K R n 990 ls (vi (1) :: st) σ k) := exS_step.trans rfl
set_option maxRecDepth 100000 in
theorem ev_L_law_990 {ct : Nat → Bool} {K : Kt} {R : Option AV → Hp → Prop} {n : Nat} {ls : List (Option AV)} {st : List AV} {σ : Hp} {k : Nat × Nat} : xe_L_law ct K R (n + 1) 990 ls st σ k = (oI st fun y st => oI st fun x st => xk_L_law ct K R n 991 ls (vi (x + y) :: st) σ k) := exS_step.trans rfl
set_option maxRecDepth 100000 in
theorem ev_L_law_991 {ct : Nat → Bool} {K : Kt} {R : Option AV → Hp → Prop} {n : Nat} {ls : List (Option AV)} {st : List AV} {σ : Hp} {k : Nat × Nat} : xe_L_law ct K R (n + 1) 991 ls st σ k = (oI st fun j st => oR st fun x st => (kd σ x = 101 ∨ kd σ x = 108) ∧ (0 ≤ j ∧ j < ln σ x) ∧ xk_L_law ct K R n 992 ls (vi (aI σ x j) :: st) σ k) := exS_step.trans rfl
set_option maxRecDepth 100000 in
theorem ev_L_law_992 {ct : Nat → Bool} {K : Kt} {R : Option AV → Hp → Prop} {n : Nat} {ls : List (Option AV)} {st : List AV} {σ : Hp} {k : Nat × Nat} : xe_L_law ct K R (n + 1) 992 ls st σ k = (popN 2 st [] fun av rest => (catS rest ≤ 8 ∧ 3 < 45 ∧ k.1 + 0 ≤ 601024 ∧ k.2 + 0 ≤ 7293034) ∧ (sp_X12_there) av σ fun v σ' => xk_L_law ct K R n 995 ls (v.toList ++ rest) σ' (k.1 + 0, k.2 + 0)) := exS_step.trans rfl
set_option maxRecDepth 100000 in
theorem ev_L_law_995 {ct : Nat → Bool} {K : Kt} {R : Option AV → Hp → Prop} {n : Nat} {ls : List (Option AV)} {st : List AV} {σ : Hp} {k : Nat × Nat} : xe_L_law ct K R (n + 1) 995 ls st σ k = (oI st fun y st => oI st fun x st => (wI x = wI y → xk_L_law ct K R n 1333 ls st σ k) ∧ (¬ (wI x = wI y) → xk_L_law ct K R n 998 ls st σ k)) := exS_step.trans rfl
set_option maxRecDepth 100000 in
theorem ev_L_law_998 {ct : Nat → Bool} {K : Kt} {R : Option AV → Hp → Prop} {n : Nat} {ls : List (Option AV)} {st : List AV} {σ : Hp} {k : Nat × Nat} : xe_L_law ct K R (n + 1) 998 ls st σ k = (xk_L_law ct K R n 999 ls (vi (0) :: st) σ k) := exS_step.trans rfl
set_option maxRecDepth 100000 in
theorem ev_L_law_999 {ct : Nat → Bool} {K : Kt} {R : Option AV → Hp → Prop} {n : Nat} {ls : List (Option AV)} {st : List AV} {σ : Hp} {k : Nat × Nat} : xe_L_law ct K R (n + 1) 999 ls st σ k = (oI st fun x st => st = [] ∧ (x = 0 ∨ x = 1) ∧ R (some (vi x)) σ) := exS_step.trans rfl
set_option maxRecDepth 100000 in
theorem ev_L_law_1000 {ct : Nat → Bool} {K : Kt} {R : Option AV → Hp → Prop} {n : Nat} {ls : List (Option AV)} {st : List AV} {σ : Hp} {k : Nat × Nat} : xe_L_law ct K R (n + 1) 1000 ls st σ k = (lR ls 1 fun x => xk_L_law ct K R n 1001 ls (vr x :: st) σ k) := exS_step.trans rfl
set_option maxRecDepth 100000 in
theorem ev_L_law_1001 {ct : Nat → Bool} {K : Kt} {R : Option AV → Hp → Prop} {n : Nat} {ls : List (Option AV)} {st : List AV} {σ : Hp} {k : Nat × Nat} : xe_L_law ct K R (n + 1) 1001 ls st σ k = (lR ls 0 fun x => xk_L_law ct K R n 1002 ls (vr x :: st) σ k) := exS_step.trans rfl
set_option maxRecDepth 100000 in
theorem ev_L_law_1002 {ct : Nat → Bool} {K : Kt} {R : Option AV → Hp → Prop} {n : Nat} {ls : List (Option AV)} {st : List AV} {σ : Hp} {k : Nat × Nat} : xe_L_law ct K R (n + 1) 1002 ls st σ k = (lI ls 4 fun x => xk_L_law ct K R n 1004 ls (vi x :: st) σ k) := exS_step.trans rfl
set_option maxRecDepth 100000 in
theorem ev_L_law_1004 {ct : Nat → Bool} {K : Kt} {R : Option AV → Hp → Prop} {n : Nat} {ls : List (Option AV)} {st : List AV} {σ : Hp} {k : Nat × Nat} : xe_L_law ct K R (n + 1) 1004 ls st σ k = (xk_L_law ct K R n 1005 ls (vi (1) :: st) σ k) := exS_step.trans rfl
set_option maxRecDepth 100000 in
theorem ev_L_law_1005 {ct : Nat → Bool} {K : Kt} {R : Option AV → Hp → Prop} {n : Nat} {ls : List (Option AV)} {st : List AV} {σ : Hp} {k : Nat × Nat} : xe_L_law ct K R (n + 1) 1005 ls st σ k = (oI st fun y st => oI st fun x st => xk_L_law ct K R n 1006 ls (vi (x + y) :: st) σ k) := exS_step.trans rfl
set_option maxRecDepth 100000 in
theorem ev_L_law_1006 {ct : Nat → Bool} {K : Kt} {R : Option AV → Hp → Prop} {n : Nat} {ls : List (Option AV)} {st : List AV} {σ : Hp} {k : Nat × Nat} : xe_L_law ct K R (n + 1) 1006 ls st σ k = (oI st fun j st => oR st fun x st => (kd σ x = 101 ∨ kd σ x = 108) ∧ (0 ≤ j ∧ j < ln σ x) ∧ xk_L_law ct K R n 1007 ls (vi (aI σ x j) :: st) σ k) := exS_step.trans rfl
set_option maxRecDepth 100000 in
theorem ev_L_law_1007 {ct : Nat → Bool} {K : Kt} {R : Option AV → Hp → Prop} {n : Nat} {ls : List (Option AV)} {st : List AV} {σ : Hp} {k : Nat × Nat} : xe_L_law ct K R (n + 1) 1007 ls st σ k = (popN 2 st [] fun av rest => (catS rest ≤ 8 ∧ 5 < 45 ∧ k.1 + 0 ≤ 601024 ∧ k.2 + 0 ≤ 7293034) ∧ (sp_X11_covered) av σ fun v σ' => xk_L_law ct K R n 1010 ls (v.toList ++ rest) σ' (k.1 + 0, k.2 + 0)) := exS_step.trans rfl
set_option maxRecDepth 100000 in
theorem ev_L_law_1010 {ct : Nat → Bool} {K : Kt} {R : Option AV → Hp → Prop} {n : Nat} {ls : List (Option AV)} {st : List AV} {σ : Hp} {k : Nat × Nat} : xe_L_law ct K R (n + 1) 1010 ls st σ k = (lR ls 2 fun x => xk_L_law ct K R n 1011 ls (vr x :: st) σ k) := exS_step.trans rfl
set_option maxRecDepth 100000 in
theorem ev_L_law_1011 {ct : Nat → Bool} {K : Kt} {R : Option AV → Hp → Prop} {n : Nat} {ls : List (Option AV)} {st : List AV} {σ : Hp} {k : Nat × Nat} : xe_L_law ct K R (n + 1) 1011 ls st σ k = (lR ls 0 fun x => xk_L_law ct K R n 1012 ls (vr x :: st) σ k) := exS_step.trans rfl
set_option maxRecDepth 100000 in
theorem ev_L_law_1012 {ct : Nat → Bool} {K : Kt} {R : Option AV → Hp → Prop} {n : Nat} {ls : List (Option AV)} {st : List AV} {σ : Hp} {k : Nat × Nat} : xe_L_law ct K R (n + 1) 1012 ls st σ k = (lI ls 4 fun x => xk_L_law ct K R n 1014 ls (vi x :: st) σ k) := exS_step.trans rfl
set_option maxRecDepth 100000 in
theorem ev_L_law_1014 {ct : Nat → Bool} {K : Kt} {R : Option AV → Hp → Prop} {n : Nat} {ls : List (Option AV)} {st : List AV} {σ : Hp} {k : Nat × Nat} : xe_L_law ct K R (n + 1) 1014 ls st σ k = (xk_L_law ct K R n 1015 ls (vi (1) :: st) σ k) := exS_step.trans rfl
set_option maxRecDepth 100000 in
theorem ev_L_law_1015 {ct : Nat → Bool} {K : Kt} {R : Option AV → Hp → Prop} {n : Nat} {ls : List (Option AV)} {st : List AV} {σ : Hp} {k : Nat × Nat} : xe_L_law ct K R (n + 1) 1015 ls st σ k = (oI st fun y st => oI st fun x st => xk_L_law ct K R n 1016 ls (vi (x + y) :: st) σ k) := exS_step.trans rfl
set_option maxRecDepth 100000 in
theorem ev_L_law_1016 {ct : Nat → Bool} {K : Kt} {R : Option AV → Hp → Prop} {n : Nat} {ls : List (Option AV)} {st : List AV} {σ : Hp} {k : Nat × Nat} : xe_L_law ct K R (n + 1) 1016 ls st σ k = (oI st fun j st => oR st fun x st => (kd σ x = 101 ∨ kd σ x = 108) ∧ (0 ≤ j ∧ j < ln σ x) ∧ xk_L_law ct K R n 1017 ls (vi (aI σ x j) :: st) σ k) := exS_step.trans rfl
set_option maxRecDepth 100000 in
theorem ev_L_law_1017 {ct : Nat → Bool} {K : Kt} {R : Option AV → Hp → Prop} {n : Nat} {ls : List (Option AV)} {st : List AV} {σ : Hp} {k : Nat × Nat} : xe_L_law ct K R (n + 1) 1017 ls st σ k = (popN 2 st [] fun av rest => (catS rest ≤ 8 ∧ 5 < 45 ∧ k.1 + 0 ≤ 601024 ∧ k.2 + 0 ≤ 7293034) ∧ (sp_X12_covered) av σ fun v σ' => xk_L_law ct K R n 1020 ls (v.toList ++ rest) σ' (k.1 + 0, k.2 + 0)) := exS_step.trans rfl
set_option maxRecDepth 100000 in
theorem ev_L_law_1020 {ct : Nat → Bool} {K : Kt} {R : Option AV → Hp → Prop} {n : Nat} {ls : List (Option AV)} {st : List AV} {σ : Hp} {k : Nat × Nat} : xe_L_law ct K R (n + 1) 1020 ls st σ k = (oI st fun y st => oI st fun x st => (wI x = wI y → xk_L_law ct K R n 1333 ls st σ k) ∧ (¬ (wI x = wI y) → xk_L_law ct K R n 1023 ls st σ k)) := exS_step.trans rfl
set_option maxRecDepth 100000 in
theorem ev_L_law_1023 {ct : Nat → Bool} {K : Kt} {R : Option AV → Hp → Prop} {n : Nat} {ls : List (Option AV)} {st : List AV} {σ : Hp} {k : Nat × Nat} : xe_L_law ct K R (n + 1) 1023 ls st σ k = (xk_L_law ct K R n 1024 ls (vi (0) :: st) σ k) := exS_step.trans rfl
set_option maxRecDepth 100000 in
theorem ev_L_law_1024 {ct : Nat → Bool} {K : Kt} {R : Option AV → Hp → Prop} {n : Nat} {ls : List (Option AV)} {st : List AV} {σ : Hp} {k : Nat × Nat} : xe_L_law ct K R (n + 1) 1024 ls st σ k = (oI st fun x st => st = [] ∧ (x = 0 ∨ x = 1) ∧ R (some (vi x)) σ) := exS_step.trans rfl
set_option maxRecDepth 100000 in
theorem ev_L_law_1025 {ct : Nat → Bool} {K : Kt} {R : Option AV → Hp → Prop} {n : Nat} {ls : List (Option AV)} {st : List AV} {σ : Hp} {k : Nat × Nat} : xe_L_law ct K R (n + 1) 1025 ls st σ k = (lR ls 1 fun x => xk_L_law ct K R n 1026 ls (vr x :: st) σ k) := exS_step.trans rfl
set_option maxRecDepth 100000 in
theorem ev_L_law_1026 {ct : Nat → Bool} {K : Kt} {R : Option AV → Hp → Prop} {n : Nat} {ls : List (Option AV)} {st : List AV} {σ : Hp} {k : Nat × Nat} : xe_L_law ct K R (n + 1) 1026 ls st σ k = (popN 1 st [] fun av rest => (catS rest ≤ 8 ∧ 12 < 45 ∧ k.1 + 0 ≤ 601024 ∧ k.2 + 0 ≤ 7293034) ∧ (sp_X11_moves) av σ fun v σ' => xk_L_law ct K R n 1029 ls (v.toList ++ rest) σ' (k.1 + 0, k.2 + 0)) := exS_step.trans rfl
set_option maxRecDepth 100000 in
theorem ev_L_law_1029 {ct : Nat → Bool} {K : Kt} {R : Option AV → Hp → Prop} {n : Nat} {ls : List (Option AV)} {st : List AV} {σ : Hp} {k : Nat × Nat} : xe_L_law ct K R (n + 1) 1029 ls st σ k = (lR ls 2 fun x => xk_L_law ct K R n 1030 ls (vr x :: st) σ k) := exS_step.trans rfl
set_option maxRecDepth 100000 in
theorem ev_L_law_1030 {ct : Nat → Bool} {K : Kt} {R : Option AV → Hp → Prop} {n : Nat} {ls : List (Option AV)} {st : List AV} {σ : Hp} {k : Nat × Nat} : xe_L_law ct K R (n + 1) 1030 ls st σ k = (popN 1 st [] fun av rest => (catS rest ≤ 8 ∧ 6 < 45 ∧ k.1 + 0 ≤ 601024 ∧ k.2 + 0 ≤ 7293034) ∧ (sp_X12_moves) av σ fun v σ' => xk_L_law ct K R n 1033 ls (v.toList ++ rest) σ' (k.1 + 0, k.2 + 0)) := exS_step.trans rfl
set_option maxRecDepth 100000 in
theorem ev_L_law_1033 {ct : Nat → Bool} {K : Kt} {R : Option AV → Hp → Prop} {n : Nat} {ls : List (Option AV)} {st : List AV} {σ : Hp} {k : Nat × Nat} : xe_L_law ct K R (n + 1) 1033 ls st σ k = (oI st fun y st => oI st fun x st => (wI x = wI y → xk_L_law ct K R n 1333 ls st σ k) ∧ (¬ (wI x = wI y) → xk_L_law ct K R n 1036 ls st σ k)) := exS_step.trans rfl
set_option maxRecDepth 100000 in
theorem ev_L_law_1036 {ct : Nat → Bool} {K : Kt} {R : Option AV → Hp → Prop} {n : Nat} {ls : List (Option AV)} {st : List AV} {σ : Hp} {k : Nat × Nat} : xe_L_law ct K R (n + 1) 1036 ls st σ k = (xk_L_law ct K R n 1037 ls (vi (0) :: st) σ k) := exS_step.trans rfl
set_option maxRecDepth 100000 in
theorem ev_L_law_1037 {ct : Nat → Bool} {K : Kt} {R : Option AV → Hp → Prop} {n : Nat} {ls : List (Option AV)} {st : List AV} {σ : Hp} {k : Nat × Nat} : xe_L_law ct K R (n + 1) 1037 ls st σ k = (oI st fun x st => st = [] ∧ (x = 0 ∨ x = 1) ∧ R (some (vi x)) σ) := exS_step.trans rfl
set_option maxRecDepth 100000 in
theorem ev_L_law_1038 {ct : Nat → Bool} {K : Kt} {R : Option AV → Hp → Prop} {n : Nat} {ls : List (Option AV)} {st : List AV} {σ : Hp} {k : Nat × Nat} : xe_L_law ct K R (n + 1) 1038 ls st σ k = (lR ls 1 fun x => xk_L_law ct K R n 1039 ls (vr x :: st) σ k) := exS_step.trans rfl
set_option maxRecDepth 100000 in
theorem ev_L_law_1039 {ct : Nat → Bool} {K : Kt} {R : Option AV → Hp → Prop} {n : Nat} {ls : List (Option AV)} {st : List AV} {σ : Hp} {k : Nat × Nat} : xe_L_law ct K R (n + 1) 1039 ls st σ k = (lR ls 0 fun x => xk_L_law ct K R n 1040 ls (vr x :: st) σ k) := exS_step.trans rfl
set_option maxRecDepth 100000 in
theorem ev_L_law_1040 {ct : Nat → Bool} {K : Kt} {R : Option AV → Hp → Prop} {n : Nat} {ls : List (Option AV)} {st : List AV} {σ : Hp} {k : Nat × Nat} : xe_L_law ct K R (n + 1) 1040 ls st σ k = (lI ls 4 fun x => xk_L_law ct K R n 1042 ls (vi x :: st) σ k) := exS_step.trans rfl
set_option maxRecDepth 100000 in
theorem ev_L_law_1042 {ct : Nat → Bool} {K : Kt} {R : Option AV → Hp → Prop} {n : Nat} {ls : List (Option AV)} {st : List AV} {σ : Hp} {k : Nat × Nat} : xe_L_law ct K R (n + 1) 1042 ls st σ k = (xk_L_law ct K R n 1043 ls (vi (1) :: st) σ k) := exS_step.trans rfl
set_option maxRecDepth 100000 in
theorem ev_L_law_1043 {ct : Nat → Bool} {K : Kt} {R : Option AV → Hp → Prop} {n : Nat} {ls : List (Option AV)} {st : List AV} {σ : Hp} {k : Nat × Nat} : xe_L_law ct K R (n + 1) 1043 ls st σ k = (oI st fun y st => oI st fun x st => xk_L_law ct K R n 1044 ls (vi (x + y) :: st) σ k) := exS_step.trans rfl
set_option maxRecDepth 100000 in
theorem ev_L_law_1044 {ct : Nat → Bool} {K : Kt} {R : Option AV → Hp → Prop} {n : Nat} {ls : List (Option AV)} {st : List AV} {σ : Hp} {k : Nat × Nat} : xe_L_law ct K R (n + 1) 1044 ls st σ k = (oI st fun j st => oR st fun x st => (kd σ x = 101 ∨ kd σ x = 108) ∧ (0 ≤ j ∧ j < ln σ x) ∧ xk_L_law ct K R n 1045 ls (vi (aI σ x j) :: st) σ k) := exS_step.trans rfl
set_option maxRecDepth 100000 in
theorem ev_L_law_1045 {ct : Nat → Bool} {K : Kt} {R : Option AV → Hp → Prop} {n : Nat} {ls : List (Option AV)} {st : List AV} {σ : Hp} {k : Nat × Nat} : xe_L_law ct K R (n + 1) 1045 ls st σ k = (lR ls 0 fun x => xk_L_law ct K R n 1046 ls (vr x :: st) σ k) := exS_step.trans rfl
set_option maxRecDepth 100000 in
theorem ev_L_law_1046 {ct : Nat → Bool} {K : Kt} {R : Option AV → Hp → Prop} {n : Nat} {ls : List (Option AV)} {st : List AV} {σ : Hp} {k : Nat × Nat} : xe_L_law ct K R (n + 1) 1046 ls st σ k = (lI ls 4 fun x => xk_L_law ct K R n 1048 ls (vi x :: st) σ k) := exS_step.trans rfl
set_option maxRecDepth 100000 in
theorem ev_L_law_1048 {ct : Nat → Bool} {K : Kt} {R : Option AV → Hp → Prop} {n : Nat} {ls : List (Option AV)} {st : List AV} {σ : Hp} {k : Nat × Nat} : xe_L_law ct K R (n + 1) 1048 ls st σ k = (xk_L_law ct K R n 1049 ls (vi (2) :: st) σ k) := exS_step.trans rfl
set_option maxRecDepth 100000 in
theorem ev_L_law_1049 {ct : Nat → Bool} {K : Kt} {R : Option AV → Hp → Prop} {n : Nat} {ls : List (Option AV)} {st : List AV} {σ : Hp} {k : Nat × Nat} : xe_L_law ct K R (n + 1) 1049 ls st σ k = (oI st fun y st => oI st fun x st => xk_L_law ct K R n 1050 ls (vi (x + y) :: st) σ k) := exS_step.trans rfl
set_option maxRecDepth 100000 in
theorem ev_L_law_1050 {ct : Nat → Bool} {K : Kt} {R : Option AV → Hp → Prop} {n : Nat} {ls : List (Option AV)} {st : List AV} {σ : Hp} {k : Nat × Nat} : xe_L_law ct K R (n + 1) 1050 ls st σ k = (oI st fun j st => oR st fun x st => (kd σ x = 101 ∨ kd σ x = 108) ∧ (0 ≤ j ∧ j < ln σ x) ∧ xk_L_law ct K R n 1051 ls (vi (aI σ x j) :: st) σ k) := exS_step.trans rfl
set_option maxRecDepth 100000 in
theorem ev_L_law_1051 {ct : Nat → Bool} {K : Kt} {R : Option AV → Hp → Prop} {n : Nat} {ls : List (Option AV)} {st : List AV} {σ : Hp} {k : Nat × Nat} : xe_L_law ct K R (n + 1) 1051 ls st σ k = (popN 3 st [] fun av rest => (catS rest ≤ 8 ∧ 12 < 45 ∧ k.1 + 0 ≤ 601024 ∧ k.2 + 0 ≤ 7293034) ∧ (sp_X11_move) av σ fun v σ' => xk_L_law ct K R n 1054 ls (v.toList ++ rest) σ' (k.1 + 0, k.2 + 0)) := exS_step.trans rfl
set_option maxRecDepth 100000 in
theorem ev_L_law_1054 {ct : Nat → Bool} {K : Kt} {R : Option AV → Hp → Prop} {n : Nat} {ls : List (Option AV)} {st : List AV} {σ : Hp} {k : Nat × Nat} : xe_L_law ct K R (n + 1) 1054 ls st σ k = (lR ls 2 fun x => xk_L_law ct K R n 1055 ls (vr x :: st) σ k) := exS_step.trans rfl
set_option maxRecDepth 100000 in
theorem ev_L_law_1055 {ct : Nat → Bool} {K : Kt} {R : Option AV → Hp → Prop} {n : Nat} {ls : List (Option AV)} {st : List AV} {σ : Hp} {k : Nat × Nat} : xe_L_law ct K R (n + 1) 1055 ls st σ k = (lR ls 0 fun x => xk_L_law ct K R n 1056 ls (vr x :: st) σ k) := exS_step.trans rfl
set_option maxRecDepth 100000 in
theorem ev_L_law_1056 {ct : Nat → Bool} {K : Kt} {R : Option AV → Hp → Prop} {n : Nat} {ls : List (Option AV)} {st : List AV} {σ : Hp} {k : Nat × Nat} : xe_L_law ct K R (n + 1) 1056 ls st σ k = (lI ls 4 fun x => xk_L_law ct K R n 1058 ls (vi x :: st) σ k) := exS_step.trans rfl
set_option maxRecDepth 100000 in
theorem ev_L_law_1058 {ct : Nat → Bool} {K : Kt} {R : Option AV → Hp → Prop} {n : Nat} {ls : List (Option AV)} {st : List AV} {σ : Hp} {k : Nat × Nat} : xe_L_law ct K R (n + 1) 1058 ls st σ k = (xk_L_law ct K R n 1059 ls (vi (1) :: st) σ k) := exS_step.trans rfl
set_option maxRecDepth 100000 in
theorem ev_L_law_1059 {ct : Nat → Bool} {K : Kt} {R : Option AV → Hp → Prop} {n : Nat} {ls : List (Option AV)} {st : List AV} {σ : Hp} {k : Nat × Nat} : xe_L_law ct K R (n + 1) 1059 ls st σ k = (oI st fun y st => oI st fun x st => xk_L_law ct K R n 1060 ls (vi (x + y) :: st) σ k) := exS_step.trans rfl
set_option maxRecDepth 100000 in
theorem ev_L_law_1060 {ct : Nat → Bool} {K : Kt} {R : Option AV → Hp → Prop} {n : Nat} {ls : List (Option AV)} {st : List AV} {σ : Hp} {k : Nat × Nat} : xe_L_law ct K R (n + 1) 1060 ls st σ k = (oI st fun j st => oR st fun x st => (kd σ x = 101 ∨ kd σ x = 108) ∧ (0 ≤ j ∧ j < ln σ x) ∧ xk_L_law ct K R n 1061 ls (vi (aI σ x j) :: st) σ k) := exS_step.trans rfl
set_option maxRecDepth 100000 in
theorem ev_L_law_1061 {ct : Nat → Bool} {K : Kt} {R : Option AV → Hp → Prop} {n : Nat} {ls : List (Option AV)} {st : List AV} {σ : Hp} {k : Nat × Nat} : xe_L_law ct K R (n + 1) 1061 ls st σ k = (lR ls 0 fun x => xk_L_law ct K R n 1062 ls (vr x :: st) σ k) := exS_step.trans rfl
set_option maxRecDepth 100000 in
theorem ev_L_law_1062 {ct : Nat → Bool} {K : Kt} {R : Option AV → Hp → Prop} {n : Nat} {ls : List (Option AV)} {st : List AV} {σ : Hp} {k : Nat × Nat} : xe_L_law ct K R (n + 1) 1062 ls st σ k = (lI ls 4 fun x => xk_L_law ct K R n 1064 ls (vi x :: st) σ k) := exS_step.trans rfl
set_option maxRecDepth 100000 in
theorem ev_L_law_1064 {ct : Nat → Bool} {K : Kt} {R : Option AV → Hp → Prop} {n : Nat} {ls : List (Option AV)} {st : List AV} {σ : Hp} {k : Nat × Nat} : xe_L_law ct K R (n + 1) 1064 ls st σ k = (xk_L_law ct K R n 1065 ls (vi (2) :: st) σ k) := exS_step.trans rfl
set_option maxRecDepth 100000 in
theorem ev_L_law_1065 {ct : Nat → Bool} {K : Kt} {R : Option AV → Hp → Prop} {n : Nat} {ls : List (Option AV)} {st : List AV} {σ : Hp} {k : Nat × Nat} : xe_L_law ct K R (n + 1) 1065 ls st σ k = (oI st fun y st => oI st fun x st => xk_L_law ct K R n 1066 ls (vi (x + y) :: st) σ k) := exS_step.trans rfl
set_option maxRecDepth 100000 in
theorem ev_L_law_1066 {ct : Nat → Bool} {K : Kt} {R : Option AV → Hp → Prop} {n : Nat} {ls : List (Option AV)} {st : List AV} {σ : Hp} {k : Nat × Nat} : xe_L_law ct K R (n + 1) 1066 ls st σ k = (oI st fun j st => oR st fun x st => (kd σ x = 101 ∨ kd σ x = 108) ∧ (0 ≤ j ∧ j < ln σ x) ∧ xk_L_law ct K R n 1067 ls (vi (aI σ x j) :: st) σ k) := exS_step.trans rfl
set_option maxRecDepth 100000 in
theorem ev_L_law_1067 {ct : Nat → Bool} {K : Kt} {R : Option AV → Hp → Prop} {n : Nat} {ls : List (Option AV)} {st : List AV} {σ : Hp} {k : Nat × Nat} : xe_L_law ct K R (n + 1) 1067 ls st σ k = (popN 3 st [] fun av rest => (catS rest ≤ 8 ∧ 6 < 45 ∧ k.1 + 0 ≤ 601024 ∧ k.2 + 0 ≤ 7293034) ∧ (sp_X12_move) av σ fun v σ' => xk_L_law ct K R n 1070 ls (v.toList ++ rest) σ' (k.1 + 0, k.2 + 0)) := exS_step.trans rfl
set_option maxRecDepth 100000 in
theorem ev_L_law_1070 {ct : Nat → Bool} {K : Kt} {R : Option AV → Hp → Prop} {n : Nat} {ls : List (Option AV)} {st : List AV} {σ : Hp} {k : Nat × Nat} : xe_L_law ct K R (n + 1) 1070 ls st σ k = (oI st fun y st => oI st fun x st => (wI x = wI y → xk_L_law ct K R n 1333 ls st σ k) ∧ (¬ (wI x = wI y) → xk_L_law ct K R n 1073 ls st σ k)) := exS_step.trans rfl
set_option maxRecDepth 100000 in
theorem ev_L_law_1073 {ct : Nat → Bool} {K : Kt} {R : Option AV → Hp → Prop} {n : Nat} {ls : List (Option AV)} {st : List AV} {σ : Hp} {k : Nat × Nat} : xe_L_law ct K R (n + 1) 1073 ls st σ k = (xk_L_law ct K R n 1074 ls (vi (0) :: st) σ k) := exS_step.trans rfl
set_option maxRecDepth 100000 in
theorem ev_L_law_1074 {ct : Nat → Bool} {K : Kt} {R : Option AV → Hp → Prop} {n : Nat} {ls : List (Option AV)} {st : List AV} {σ : Hp} {k : Nat × Nat} : xe_L_law ct K R (n + 1) 1074 ls st σ k = (oI st fun x st => st = [] ∧ (x = 0 ∨ x = 1) ∧ R (some (vi x)) σ) := exS_step.trans rfl
set_option maxRecDepth 100000 in
theorem ev_L_law_1075 {ct : Nat → Bool} {K : Kt} {R : Option AV → Hp → Prop} {n : Nat} {ls : List (Option AV)} {st : List AV} {σ : Hp} {k : Nat × Nat} : xe_L_law ct K R (n + 1) 1075 ls st σ k = (lR ls 1 fun x => xk_L_law ct K R n 1076 ls (vr x :: st) σ k) := exS_step.trans rfl
set_option maxRecDepth 100000 in
theorem ev_L_law_1076 {ct : Nat → Bool} {K : Kt} {R : Option AV → Hp → Prop} {n : Nat} {ls : List (Option AV)} {st : List AV} {σ : Hp} {k : Nat × Nat} : xe_L_law ct K R (n + 1) 1076 ls st σ k = (popN 1 st [] fun av rest => (catS rest ≤ 8 ∧ 12 < 45 ∧ k.1 + 0 ≤ 601024 ∧ k.2 + 0 ≤ 7293034) ∧ (sp_X11_done) av σ fun v σ' => xk_L_law ct K R n 1079 ls (v.toList ++ rest) σ' (k.1 + 0, k.2 + 0)) := exS_step.trans rfl
set_option maxRecDepth 100000 in
theorem ev_L_law_1079 {ct : Nat → Bool} {K : Kt} {R : Option AV → Hp → Prop} {n : Nat} {ls : List (Option AV)} {st : List AV} {σ : Hp} {k : Nat × Nat} : xe_L_law ct K R (n + 1) 1079 ls st σ k = (lR ls 2 fun x => xk_L_law ct K R n 1080 ls (vr x :: st) σ k) := exS_step.trans rfl
set_option maxRecDepth 100000 in
theorem ev_L_law_1080 {ct : Nat → Bool} {K : Kt} {R : Option AV → Hp → Prop} {n : Nat} {ls : List (Option AV)} {st : List AV} {σ : Hp} {k : Nat × Nat} : xe_L_law ct K R (n + 1) 1080 ls st σ k = (popN 1 st [] fun av rest => (catS rest ≤ 8 ∧ 6 < 45 ∧ k.1 + 0 ≤ 601024 ∧ k.2 + 0 ≤ 7293034) ∧ (sp_X12_done) av σ fun v σ' => xk_L_law ct K R n 1083 ls (v.toList ++ rest) σ' (k.1 + 0, k.2 + 0)) := exS_step.trans rfl
set_option maxRecDepth 100000 in
theorem ev_L_law_1083 {ct : Nat → Bool} {K : Kt} {R : Option AV → Hp → Prop} {n : Nat} {ls : List (Option AV)} {st : List AV} {σ : Hp} {k : Nat × Nat} : xe_L_law ct K R (n + 1) 1083 ls st σ k = (oI st fun y st => oI st fun x st => (wI x = wI y → xk_L_law ct K R n 1333 ls st σ k) ∧ (¬ (wI x = wI y) → xk_L_law ct K R n 1086 ls st σ k)) := exS_step.trans rfl
set_option maxRecDepth 100000 in
theorem ev_L_law_1086 {ct : Nat → Bool} {K : Kt} {R : Option AV → Hp → Prop} {n : Nat} {ls : List (Option AV)} {st : List AV} {σ : Hp} {k : Nat × Nat} : xe_L_law ct K R (n + 1) 1086 ls st σ k = (xk_L_law ct K R n 1087 ls (vi (0) :: st) σ k) := exS_step.trans rfl
set_option maxRecDepth 100000 in
theorem ev_L_law_1087 {ct : Nat → Bool} {K : Kt} {R : Option AV → Hp → Prop} {n : Nat} {ls : List (Option AV)} {st : List AV} {σ : Hp} {k : Nat × Nat} : xe_L_law ct K R (n + 1) 1087 ls st σ k = (oI st fun x st => st = [] ∧ (x = 0 ∨ x = 1) ∧ R (some (vi x)) σ) := exS_step.trans rfl
set_option maxRecDepth 100000 in
theorem ev_L_law_1088 {ct : Nat → Bool} {K : Kt} {R : Option AV → Hp → Prop} {n : Nat} {ls : List (Option AV)} {st : List AV} {σ : Hp} {k : Nat × Nat} : xe_L_law ct K R (n + 1) 1088 ls st σ k = (lR ls 1 fun x => xk_L_law ct K R n 1089 ls (vr x :: st) σ k) := exS_step.trans rfl
set_option maxRecDepth 100000 in
theorem ev_L_law_1089 {ct : Nat → Bool} {K : Kt} {R : Option AV → Hp → Prop} {n : Nat} {ls : List (Option AV)} {st : List AV} {σ : Hp} {k : Nat × Nat} : xe_L_law ct K R (n + 1) 1089 ls st σ k = (lR ls 0 fun x => xk_L_law ct K R n 1090 ls (vr x :: st) σ k) := exS_step.trans rfl
set_option maxRecDepth 100000 in
theorem ev_L_law_1090 {ct : Nat → Bool} {K : Kt} {R : Option AV → Hp → Prop} {n : Nat} {ls : List (Option AV)} {st : List AV} {σ : Hp} {k : Nat × Nat} : xe_L_law ct K R (n + 1) 1090 ls st σ k = (lI ls 4 fun x => xk_L_law ct K R n 1092 ls (vi x :: st) σ k) := exS_step.trans rfl
set_option maxRecDepth 100000 in
theorem ev_L_law_1092 {ct : Nat → Bool} {K : Kt} {R : Option AV → Hp → Prop} {n : Nat} {ls : List (Option AV)} {st : List AV} {σ : Hp} {k : Nat × Nat} : xe_L_law ct K R (n + 1) 1092 ls st σ k = (xk_L_law ct K R n 1093 ls (vi (1) :: st) σ k) := exS_step.trans rfl
set_option maxRecDepth 100000 in
theorem ev_L_law_1093 {ct : Nat → Bool} {K : Kt} {R : Option AV → Hp → Prop} {n : Nat} {ls : List (Option AV)} {st : List AV} {σ : Hp} {k : Nat × Nat} : xe_L_law ct K R (n + 1) 1093 ls st σ k = (oI st fun y st => oI st fun x st => xk_L_law ct K R n 1094 ls (vi (x + y) :: st) σ k) := exS_step.trans rfl
set_option maxRecDepth 100000 in
theorem ev_L_law_1094 {ct : Nat → Bool} {K : Kt} {R : Option AV → Hp → Prop} {n : Nat} {ls : List (Option AV)} {st : List AV} {σ : Hp} {k : Nat × Nat} : xe_L_law ct K R (n + 1) 1094 ls st σ k = (oI st fun j st => oR st fun x st => (kd σ x = 101 ∨ kd σ x = 108) ∧ (0 ≤ j ∧ j < ln σ x) ∧ xk_L_law ct K R n 1095 ls (vi (aI σ x j) :: st) σ k) := exS_step.trans rfl
set_option maxRecDepth 100000 in
theorem ev_L_law_1095 {ct : Nat → Bool} {K : Kt} {R : Option AV → Hp → Prop} {n : Nat} {ls : List (Option AV)} {st : List AV} {σ : Hp} {k : Nat × Nat} : xe_L_law ct K R (n + 1) 1095 ls st σ k = (lR ls 0 fun x => xk_L_law ct K R n 1096 ls (vr x :: st) σ k) := exS_step.trans rfl
set_option maxRecDepth 100000 in
theorem ev_L_law_1096 {ct : Nat → Bool} {K : Kt} {R : Option AV → Hp → Prop} {n : Nat} {ls : List (Option AV)} {st : List AV} {σ : Hp} {k : Nat × Nat} : xe_L_law ct K R (n + 1) 1096 ls st σ k = (lI ls 4 fun x => xk_L_law ct K R n 1098 ls (vi x :: st) σ k) := exS_step.trans rfl
set_option maxRecDepth 100000 in
theorem ev_L_law_1098 {ct : Nat → Bool} {K : Kt} {R : Option AV → Hp → Prop} {n : Nat} {ls : List (Option AV)} {st : List AV} {σ : Hp} {k : Nat × Nat} : xe_L_law ct K R (n + 1) 1098 ls st σ k = (xk_L_law ct K R n 1099 ls (vi (2) :: st) σ k) := exS_step.trans rfl
set_option maxRecDepth 100000 in
theorem ev_L_law_1099 {ct : Nat → Bool} {K : Kt} {R : Option AV → Hp → Prop} {n : Nat} {ls : List (Option AV)} {st : List AV} {σ : Hp} {k : Nat × Nat} : xe_L_law ct K R (n + 1) 1099 ls st σ k = (oI st fun y st => oI st fun x st => xk_L_law ct K R n 1100 ls (vi (x + y) :: st) σ k) := exS_step.trans rfl
set_option maxRecDepth 100000 in
theorem ev_L_law_1100 {ct : Nat → Bool} {K : Kt} {R : Option AV → Hp → Prop} {n : Nat} {ls : List (Option AV)} {st : List AV} {σ : Hp} {k : Nat × Nat} : xe_L_law ct K R (n + 1) 1100 ls st σ k = (oI st fun j st => oR st fun x st => (kd σ x = 101 ∨ kd σ x = 108) ∧ (0 ≤ j ∧ j < ln σ x) ∧ xk_L_law ct K R n 1101 ls (vi (aI σ x j) :: st) σ k) := exS_step.trans rfl
set_option maxRecDepth 100000 in
theorem ev_L_law_1101 {ct : Nat → Bool} {K : Kt} {R : Option AV → Hp → Prop} {n : Nat} {ls : List (Option AV)} {st : List AV} {σ : Hp} {k : Nat × Nat} : xe_L_law ct K R (n + 1) 1101 ls st σ k = (oI st fun x st => (wI x = wI 0 → xk_L_law ct K R n 1108 ls st σ k) ∧ (¬ (wI x = wI 0) → xk_L_law ct K R n 1104 ls st σ k)) := exS_step.trans rfl
set_option maxRecDepth 100000 in
theorem ev_L_law_1104 {ct : Nat → Bool} {K : Kt} {R : Option AV → Hp → Prop} {n : Nat} {ls : List (Option AV)} {st : List AV} {σ : Hp} {k : Nat × Nat} : xe_L_law ct K R (n + 1) 1104 ls st σ k = (xk_L_law ct K R n 1105 ls (vi (1) :: st) σ k) := exS_step.trans rfl
set_option maxRecDepth 100000 in
theorem ev_L_law_1105 {ct : Nat → Bool} {K : Kt} {R : Option AV → Hp → Prop} {n : Nat} {ls : List (Option AV)} {st : List AV} {σ : Hp} {k : Nat × Nat} : xe_L_law ct K R (n + 1) 1105 ls st σ k = (xk_L_law ct K R n 1109 ls st σ k) := exS_step.trans rfl
set_option maxRecDepth 100000 in
theorem ev_L_law_1108 {ct : Nat → Bool} {K : Kt} {R : Option AV → Hp → Prop} {n : Nat} {ls : List (Option AV)} {st : List AV} {σ : Hp} {k : Nat × Nat} : xe_L_law ct K R (n + 1) 1108 ls st σ k = (xk_L_law ct K R n 1109 ls (vi (0) :: st) σ k) := exS_step.trans rfl
set_option maxRecDepth 100000 in
theorem ev_L_law_1109 {ct : Nat → Bool} {K : Kt} {R : Option AV → Hp → Prop} {n : Nat} {ls : List (Option AV)} {st : List AV} {σ : Hp} {k : Nat × Nat} : xe_L_law ct K R (n + 1) 1109 ls st σ k = (popN 3 st [] fun av rest => (catS rest ≤ 8 ∧ 5 < 45 ∧ k.1 + 0 ≤ 601024 ∧ k.2 + 0 ≤ 7293034) ∧ (sp_X11_word) av σ fun v σ' => xk_L_law ct K R n 1112 ls (v.toList ++ rest) σ' (k.1 + 0, k.2 + 0)) := exS_step.trans rfl
set_option maxRecDepth 100000 in
theorem ev_L_law_1112 {ct : Nat → Bool} {K : Kt} {R : Option AV → Hp → Prop} {n : Nat} {ls : List (Option AV)} {st : List AV} {σ : Hp} {k : Nat × Nat} : xe_L_law ct K R (n + 1) 1112 ls st σ k = (lR ls 2 fun x => xk_L_law ct K R n 1113 ls (vr x :: st) σ k) := exS_step.trans rfl
set_option maxRecDepth 100000 in
theorem ev_L_law_1113 {ct : Nat → Bool} {K : Kt} {R : Option AV → Hp → Prop} {n : Nat} {ls : List (Option AV)} {st : List AV} {σ : Hp} {k : Nat × Nat} : xe_L_law ct K R (n + 1) 1113 ls st σ k = (lR ls 0 fun x => xk_L_law ct K R n 1114 ls (vr x :: st) σ k) := exS_step.trans rfl
set_option maxRecDepth 100000 in
theorem ev_L_law_1114 {ct : Nat → Bool} {K : Kt} {R : Option AV → Hp → Prop} {n : Nat} {ls : List (Option AV)} {st : List AV} {σ : Hp} {k : Nat × Nat} : xe_L_law ct K R (n + 1) 1114 ls st σ k = (lI ls 4 fun x => xk_L_law ct K R n 1116 ls (vi x :: st) σ k) := exS_step.trans rfl
set_option maxRecDepth 100000 in
theorem ev_L_law_1116 {ct : Nat → Bool} {K : Kt} {R : Option AV → Hp → Prop} {n : Nat} {ls : List (Option AV)} {st : List AV} {σ : Hp} {k : Nat × Nat} : xe_L_law ct K R (n + 1) 1116 ls st σ k = (xk_L_law ct K R n 1117 ls (vi (1) :: st) σ k) := exS_step.trans rfl
set_option maxRecDepth 100000 in
theorem ev_L_law_1117 {ct : Nat → Bool} {K : Kt} {R : Option AV → Hp → Prop} {n : Nat} {ls : List (Option AV)} {st : List AV} {σ : Hp} {k : Nat × Nat} : xe_L_law ct K R (n + 1) 1117 ls st σ k = (oI st fun y st => oI st fun x st => xk_L_law ct K R n 1118 ls (vi (x + y) :: st) σ k) := exS_step.trans rfl
set_option maxRecDepth 100000 in
theorem ev_L_law_1118 {ct : Nat → Bool} {K : Kt} {R : Option AV → Hp → Prop} {n : Nat} {ls : List (Option AV)} {st : List AV} {σ : Hp} {k : Nat × Nat} : xe_L_law ct K R (n + 1) 1118 ls st σ k = (oI st fun j st => oR st fun x st => (kd σ x = 101 ∨ kd σ x = 108) ∧ (0 ≤ j ∧ j < ln σ x) ∧ xk_L_law ct K R n 1119 ls (vi (aI σ x j) :: st) σ k) := exS_step.trans rfl
set_option maxRecDepth 100000 in
theorem ev_L_law_1119 {ct : Nat → Bool} {K : Kt} {R : Option AV → Hp → Prop} {n : Nat} {ls : List (Option AV)} {st : List AV} {σ : Hp} {k : Nat × Nat} : xe_L_law ct K R (n + 1) 1119 ls st σ k = (lR ls 0 fun x => xk_L_law ct K R n 1120 ls (vr x :: st) σ k) := exS_step.trans rfl
set_option maxRecDepth 100000 in
theorem ev_L_law_1120 {ct : Nat → Bool} {K : Kt} {R : Option AV → Hp → Prop} {n : Nat} {ls : List (Option AV)} {st : List AV} {σ : Hp} {k : Nat × Nat} : xe_L_law ct K R (n + 1) 1120 ls st σ k = (lI ls 4 fun x => xk_L_law ct K R n 1122 ls (vi x :: st) σ k) := exS_step.trans rfl
set_option maxRecDepth 100000 in
theorem ev_L_law_1122 {ct : Nat → Bool} {K : Kt} {R : Option AV → Hp → Prop} {n : Nat} {ls : List (Option AV)} {st : List AV} {σ : Hp} {k : Nat × Nat} : xe_L_law ct K R (n + 1) 1122 ls st σ k = (xk_L_law ct K R n 1123 ls (vi (2) :: st) σ k) := exS_step.trans rfl
set_option maxRecDepth 100000 in
theorem ev_L_law_1123 {ct : Nat → Bool} {K : Kt} {R : Option AV → Hp → Prop} {n : Nat} {ls : List (Option AV)} {st : List AV} {σ : Hp} {k : Nat × Nat} : xe_L_law ct K R (n + 1) 1123 ls st σ k = (oI st fun y st => oI st fun x st => xk_L_law ct K R n 1124 ls (vi (x + y) :: st) σ k) := exS_step.trans rfl
set_option maxRecDepth 100000 in
theorem ev_L_law_1124 {ct : Nat → Bool} {K : Kt} {R : Option AV → Hp → Prop} {n : Nat} {ls : List (Option AV)} {st : List AV} {σ : Hp} {k : Nat × Nat} : xe_L_law ct K R (n + 1) 1124 ls st σ k = (oI st fun j st => oR st fun x st => (kd σ x = 101 ∨ kd σ x = 108) ∧ (0 ≤ j ∧ j < ln σ x) ∧ xk_L_law ct K R n 1125 ls (vi (aI σ x j) :: st) σ k) := exS_step.trans rfl
set_option maxRecDepth 100000 in
theorem ev_L_law_1125 {ct : Nat → Bool} {K : Kt} {R : Option AV → Hp → Prop} {n : Nat} {ls : List (Option AV)} {st : List AV} {σ : Hp} {k : Nat × Nat} : xe_L_law ct K R (n + 1) 1125 ls st σ k = (oI st fun x st => (wI x = wI 0 → xk_L_law ct K R n 1132 ls st σ k) ∧ (¬ (wI x = wI 0) → xk_L_law ct K R n 1128 ls st σ k)) := exS_step.trans rfl
set_option maxRecDepth 100000 in
theorem ev_L_law_1128 {ct : Nat → Bool} {K : Kt} {R : Option AV → Hp → Prop} {n : Nat} {ls : List (Option AV)} {st : List AV} {σ : Hp} {k : Nat × Nat} : xe_L_law ct K R (n + 1) 1128 ls st σ k = (xk_L_law ct K R n 1129 ls (vi (1) :: st) σ k) := exS_step.trans rfl
set_option maxRecDepth 100000 in
theorem ev_L_law_1129 {ct : Nat → Bool} {K : Kt} {R : Option AV → Hp → Prop} {n : Nat} {ls : List (Option AV)} {st : List AV} {σ : Hp} {k : Nat × Nat} : xe_L_law ct K R (n + 1) 1129 ls st σ k = (xk_L_law ct K R n 1133 ls st σ k) := exS_step.trans rfl
set_option maxRecDepth 100000 in
theorem ev_L_law_1132 {ct : Nat → Bool} {K : Kt} {R : Option AV → Hp → Prop} {n : Nat} {ls : List (Option AV)} {st : List AV} {σ : Hp} {k : Nat × Nat} : xe_L_law ct K R (n + 1) 1132 ls st σ k = (xk_L_law ct K R n 1133 ls (vi (0) :: st) σ k) := exS_step.trans rfl
set_option maxRecDepth 100000 in
theorem ev_L_law_1133 {ct : Nat → Bool} {K : Kt} {R : Option AV → Hp → Prop} {n : Nat} {ls : List (Option AV)} {st : List AV} {σ : Hp} {k : Nat × Nat} : xe_L_law ct K R (n + 1) 1133 ls st σ k = (popN 3 st [] fun av rest => (catS rest ≤ 8 ∧ 3 < 45 ∧ k.1 + 0 ≤ 601024 ∧ k.2 + 0 ≤ 7293034) ∧ (sp_X12_word) av σ fun v σ' => xk_L_law ct K R n 1136 ls (v.toList ++ rest) σ' (k.1 + 0, k.2 + 0)) := exS_step.trans rfl
set_option maxRecDepth 100000 in
theorem ev_L_law_1136 {ct : Nat → Bool} {K : Kt} {R : Option AV → Hp → Prop} {n : Nat} {ls : List (Option AV)} {st : List AV} {σ : Hp} {k : Nat × Nat} : xe_L_law ct K R (n + 1) 1136 ls st σ k = (oI st fun y st => oI st fun x st => (wI x = wI y → xk_L_law ct K R n 1333 ls st σ k) ∧ (¬ (wI x = wI y) → xk_L_law ct K R n 1139 ls st σ k)) := exS_step.trans rfl
set_option maxRecDepth 100000 in
theorem ev_L_law_1139 {ct : Nat → Bool} {K : Kt} {R : Option AV → Hp → Prop} {n : Nat} {ls : List (Option AV)} {st : List AV} {σ : Hp} {k : Nat × Nat} : xe_L_law ct K R (n + 1) 1139 ls st σ k = (xk_L_law ct K R n 1140 ls (vi (0) :: st) σ k) := exS_step.trans rfl
set_option maxRecDepth 100000 in
theorem ev_L_law_1140 {ct : Nat → Bool} {K : Kt} {R : Option AV → Hp → Prop} {n : Nat} {ls : List (Option AV)} {st : List AV} {σ : Hp} {k : Nat × Nat} : xe_L_law ct K R (n + 1) 1140 ls st σ k = (oI st fun x st => st = [] ∧ (x = 0 ∨ x = 1) ∧ R (some (vi x)) σ) := exS_step.trans rfl
set_option maxRecDepth 100000 in
theorem ev_L_law_1141 {ct : Nat → Bool} {K : Kt} {R : Option AV → Hp → Prop} {n : Nat} {ls : List (Option AV)} {st : List AV} {σ : Hp} {k : Nat × Nat} : xe_L_law ct K R (n + 1) 1141 ls st σ k = (lR ls 1 fun x => xk_L_law ct K R n 1142 ls (vr x :: st) σ k) := exS_step.trans rfl
set_option maxRecDepth 100000 in
theorem ev_L_law_1142 {ct : Nat → Bool} {K : Kt} {R : Option AV → Hp → Prop} {n : Nat} {ls : List (Option AV)} {st : List AV} {σ : Hp} {k : Nat × Nat} : xe_L_law ct K R (n + 1) 1142 ls st σ k = (lR ls 0 fun x => xk_L_law ct K R n 1143 ls (vr x :: st) σ k) := exS_step.trans rfl
set_option maxRecDepth 100000 in
theorem ev_L_law_1143 {ct : Nat → Bool} {K : Kt} {R : Option AV → Hp → Prop} {n : Nat} {ls : List (Option AV)} {st : List AV} {σ : Hp} {k : Nat × Nat} : xe_L_law ct K R (n + 1) 1143 ls st σ k = (lI ls 4 fun x => xk_L_law ct K R n 1145 ls (vi x :: st) σ k) := exS_step.trans rfl
set_option maxRecDepth 100000 in
theorem ev_L_law_1145 {ct : Nat → Bool} {K : Kt} {R : Option AV → Hp → Prop} {n : Nat} {ls : List (Option AV)} {st : List AV} {σ : Hp} {k : Nat × Nat} : xe_L_law ct K R (n + 1) 1145 ls st σ k = (xk_L_law ct K R n 1146 ls (vi (1) :: st) σ k) := exS_step.trans rfl
set_option maxRecDepth 100000 in
theorem ev_L_law_1146 {ct : Nat → Bool} {K : Kt} {R : Option AV → Hp → Prop} {n : Nat} {ls : List (Option AV)} {st : List AV} {σ : Hp} {k : Nat × Nat} : xe_L_law ct K R (n + 1) 1146 ls st σ k = (oI st fun y st => oI st fun x st => xk_L_law ct K R n 1147 ls (vi (x + y) :: st) σ k) := exS_step.trans rfl
set_option maxRecDepth 100000 in
theorem ev_L_law_1147 {ct : Nat → Bool} {K : Kt} {R : Option AV → Hp → Prop} {n : Nat} {ls : List (Option AV)} {st : List AV} {σ : Hp} {k : Nat × Nat} : xe_L_law ct K R (n + 1) 1147 ls st σ k = (oI st fun j st => oR st fun x st => (kd σ x = 101 ∨ kd σ x = 108) ∧ (0 ≤ j ∧ j < ln σ x) ∧ xk_L_law ct K R n 1148 ls (vi (aI σ x j) :: st) σ k) := exS_step.trans rfl
set_option maxRecDepth 100000 in
theorem ev_L_law_1148 {ct : Nat → Bool} {K : Kt} {R : Option AV → Hp → Prop} {n : Nat} {ls : List (Option AV)} {st : List AV} {σ : Hp} {k : Nat × Nat} : xe_L_law ct K R (n + 1) 1148 ls st σ k = (lR ls 0 fun x => xk_L_law ct K R n 1149 ls (vr x :: st) σ k) := exS_step.trans rfl
set_option maxRecDepth 100000 in
theorem ev_L_law_1149 {ct : Nat → Bool} {K : Kt} {R : Option AV → Hp → Prop} {n : Nat} {ls : List (Option AV)} {st : List AV} {σ : Hp} {k : Nat × Nat} : xe_L_law ct K R (n + 1) 1149 ls st σ k = (lI ls 4 fun x => xk_L_law ct K R n 1151 ls (vi x :: st) σ k) := exS_step.trans rfl
set_option maxRecDepth 100000 in
theorem ev_L_law_1151 {ct : Nat → Bool} {K : Kt} {R : Option AV → Hp → Prop} {n : Nat} {ls : List (Option AV)} {st : List AV} {σ : Hp} {k : Nat × Nat} : xe_L_law ct K R (n + 1) 1151 ls st σ k = (xk_L_law ct K R n 1152 ls (vi (2) :: st) σ k) := exS_step.trans rfl
set_option maxRecDepth 100000 in
theorem ev_L_law_1152 {ct : Nat → Bool} {K : Kt} {R : Option AV → Hp → Prop} {n : Nat} {ls : List (Option AV)} {st : List AV} {σ : Hp} {k : Nat × Nat} : xe_L_law ct K R (n + 1) 1152 ls st σ k = (oI st fun y st => oI st fun x st => xk_L_law ct K R n 1153 ls (vi (x + y) :: st) σ k) := exS_step.trans rfl
set_option maxRecDepth 100000 in
theorem ev_L_law_1153 {ct : Nat → Bool} {K : Kt} {R : Option AV → Hp → Prop} {n : Nat} {ls : List (Option AV)} {st : List AV} {σ : Hp} {k : Nat × Nat} : xe_L_law ct K R (n + 1) 1153 ls st σ k = (oI st fun j st => oR st fun x st => (kd σ x = 101 ∨ kd σ x = 108) ∧ (0 ≤ j ∧ j < ln σ x) ∧ xk_L_law ct K R n 1154 ls (vi (aI σ x j) :: st) σ k) := exS_step.trans rfl
set_option maxRecDepth 100000 in
theorem ev_L_law_1154 {ct : Nat → Bool} {K : Kt} {R : Option AV → Hp → Prop} {n : Nat} {ls : List (Option AV)} {st : List AV} {σ : Hp} {k : Nat × Nat} : xe_L_law ct K R (n + 1) 1154 ls st σ k = (popN 3 st [] fun av rest => (catS rest ≤ 8 ∧ 6 < 45 ∧ k.1 + 0 ≤ 601024 ∧ k.2 + 0 ≤ 7293034) ∧ (sp_X11_known) av σ fun v σ' => xk_L_law ct K R n 1157 ls (v.toList ++ rest) σ' (k.1 + 0, k.2 + 0)) := exS_step.trans rfl
set_option maxRecDepth 100000 in
theorem ev_L_law_1157 {ct : Nat → Bool} {K : Kt} {R : Option AV → Hp → Prop} {n : Nat} {ls : List (Option AV)} {st : List AV} {σ : Hp} {k : Nat × Nat} : xe_L_law ct K R (n + 1) 1157 ls st σ k = (lR ls 2 fun x => xk_L_law ct K R n 1158 ls (vr x :: st) σ k) := exS_step.trans rfl
set_option maxRecDepth 100000 in
theorem ev_L_law_1158 {ct : Nat → Bool} {K : Kt} {R : Option AV → Hp → Prop} {n : Nat} {ls : List (Option AV)} {st : List AV} {σ : Hp} {k : Nat × Nat} : xe_L_law ct K R (n + 1) 1158 ls st σ k = (lR ls 0 fun x => xk_L_law ct K R n 1159 ls (vr x :: st) σ k) := exS_step.trans rfl
set_option maxRecDepth 100000 in
theorem ev_L_law_1159 {ct : Nat → Bool} {K : Kt} {R : Option AV → Hp → Prop} {n : Nat} {ls : List (Option AV)} {st : List AV} {σ : Hp} {k : Nat × Nat} : xe_L_law ct K R (n + 1) 1159 ls st σ k = (lI ls 4 fun x => xk_L_law ct K R n 1161 ls (vi x :: st) σ k) := exS_step.trans rfl
set_option maxRecDepth 100000 in
theorem ev_L_law_1161 {ct : Nat → Bool} {K : Kt} {R : Option AV → Hp → Prop} {n : Nat} {ls : List (Option AV)} {st : List AV} {σ : Hp} {k : Nat × Nat} : xe_L_law ct K R (n + 1) 1161 ls st σ k = (xk_L_law ct K R n 1162 ls (vi (1) :: st) σ k) := exS_step.trans rfl
set_option maxRecDepth 100000 in
theorem ev_L_law_1162 {ct : Nat → Bool} {K : Kt} {R : Option AV → Hp → Prop} {n : Nat} {ls : List (Option AV)} {st : List AV} {σ : Hp} {k : Nat × Nat} : xe_L_law ct K R (n + 1) 1162 ls st σ k = (oI st fun y st => oI st fun x st => xk_L_law ct K R n 1163 ls (vi (x + y) :: st) σ k) := exS_step.trans rfl
set_option maxRecDepth 100000 in
theorem ev_L_law_1163 {ct : Nat → Bool} {K : Kt} {R : Option AV → Hp → Prop} {n : Nat} {ls : List (Option AV)} {st : List AV} {σ : Hp} {k : Nat × Nat} : xe_L_law ct K R (n + 1) 1163 ls st σ k = (oI st fun j st => oR st fun x st => (kd σ x = 101 ∨ kd σ x = 108) ∧ (0 ≤ j ∧ j < ln σ x) ∧ xk_L_law ct K R n 1164 ls (vi (aI σ x j) :: st) σ k) := exS_step.trans rfl
set_option maxRecDepth 100000 in
theorem ev_L_law_1164 {ct : Nat → Bool} {K : Kt} {R : Option AV → Hp → Prop} {n : Nat} {ls : List (Option AV)} {st : List AV} {σ : Hp} {k : Nat × Nat} : xe_L_law ct K R (n + 1) 1164 ls st σ k = (lR ls 0 fun x => xk_L_law ct K R n 1165 ls (vr x :: st) σ k) := exS_step.trans rfl
set_option maxRecDepth 100000 in
theorem ev_L_law_1165 {ct : Nat → Bool} {K : Kt} {R : Option AV → Hp → Prop} {n : Nat} {ls : List (Option AV)} {st : List AV} {σ : Hp} {k : Nat × Nat} : xe_L_law ct K R (n + 1) 1165 ls st σ k = (lI ls 4 fun x => xk_L_law ct K R n 1167 ls (vi x :: st) σ k) := exS_step.trans rfl
set_option maxRecDepth 100000 in
theorem ev_L_law_1167 {ct : Nat → Bool} {K : Kt} {R : Option AV → Hp → Prop} {n : Nat} {ls : List (Option AV)} {st : List AV} {σ : Hp} {k : Nat × Nat} : xe_L_law ct K R (n + 1) 1167 ls st σ k = (xk_L_law ct K R n 1168 ls (vi (2) :: st) σ k) := exS_step.trans rfl
set_option maxRecDepth 100000 in
theorem ev_L_law_1168 {ct : Nat → Bool} {K : Kt} {R : Option AV → Hp → Prop} {n : Nat} {ls : List (Option AV)} {st : List AV} {σ : Hp} {k : Nat × Nat} : xe_L_law ct K R (n + 1) 1168 ls st σ k = (oI st fun y st => oI st fun x st => xk_L_law ct K R n 1169 ls (vi (x + y) :: st) σ k) := exS_step.trans rfl
set_option maxRecDepth 100000 in
theorem ev_L_law_1169 {ct : Nat → Bool} {K : Kt} {R : Option AV → Hp → Prop} {n : Nat} {ls : List (Option AV)} {st : List AV} {σ : Hp} {k : Nat × Nat} : xe_L_law ct K R (n + 1) 1169 ls st σ k = (oI st fun j st => oR st fun x st => (kd σ x = 101 ∨ kd σ x = 108) ∧ (0 ≤ j ∧ j < ln σ x) ∧ xk_L_law ct K R n 1170 ls (vi (aI σ x j) :: st) σ k) := exS_step.trans rfl
set_option maxRecDepth 100000 in
theorem ev_L_law_1170 {ct : Nat → Bool} {K : Kt} {R : Option AV → Hp → Prop} {n : Nat} {ls : List (Option AV)} {st : List AV} {σ : Hp} {k : Nat × Nat} : xe_L_law ct K R (n + 1) 1170 ls st σ k = (popN 3 st [] fun av rest => (catS rest ≤ 8 ∧ 3 < 45 ∧ k.1 + 0 ≤ 601024 ∧ k.2 + 0 ≤ 7293034) ∧ (sp_X12_known) av σ fun v σ' => xk_L_law ct K R n 1173 ls (v.toList ++ rest) σ' (k.1 + 0, k.2 + 0)) := exS_step.trans rfl
set_option maxRecDepth 100000 in
theorem ev_L_law_1173 {ct : Nat → Bool} {K : Kt} {R : Option AV → Hp → Prop} {n : Nat} {ls : List (Option AV)} {st : List AV} {σ : Hp} {k : Nat × Nat} : xe_L_law ct K R (n + 1) 1173 ls st σ k = (oI st fun y st => oI st fun x st => (wI x = wI y → xk_L_law ct K R n 1333 ls st σ k) ∧ (¬ (wI x = wI y) → xk_L_law ct K R n 1176 ls st σ k)) := exS_step.trans rfl
set_option maxRecDepth 100000 in
theorem ev_L_law_1176 {ct : Nat → Bool} {K : Kt} {R : Option AV → Hp → Prop} {n : Nat} {ls : List (Option AV)} {st : List AV} {σ : Hp} {k : Nat × Nat} : xe_L_law ct K R (n + 1) 1176 ls st σ k = (xk_L_law ct K R n 1177 ls (vi (0) :: st) σ k) := exS_step.trans rfl
set_option maxRecDepth 100000 in
theorem ev_L_law_1177 {ct : Nat → Bool} {K : Kt} {R : Option AV → Hp → Prop} {n : Nat} {ls : List (Option AV)} {st : List AV} {σ : Hp} {k : Nat × Nat} : xe_L_law ct K R (n + 1) 1177 ls st σ k = (oI st fun x st => st = [] ∧ (x = 0 ∨ x = 1) ∧ R (some (vi x)) σ) := exS_step.trans rfl
set_option maxRecDepth 100000 in
theorem ev_L_law_1178 {ct : Nat → Bool} {K : Kt} {R : Option AV → Hp → Prop} {n : Nat} {ls : List (Option AV)} {st : List AV} {σ : Hp} {k : Nat × Nat} : xe_L_law ct K R (n + 1) 1178 ls st σ k = (lR ls 1 fun x => xk_L_law ct K R n 1179 ls (vr x :: st) σ k) := exS_step.trans rfl
set_option maxRecDepth 100000 in
theorem ev_L_law_1179 {ct : Nat → Bool} {K : Kt} {R : Option AV → Hp → Prop} {n : Nat} {ls : List (Option AV)} {st : List AV} {σ : Hp} {k : Nat × Nat} : xe_L_law ct K R (n + 1) 1179 ls st σ k = (lR ls 0 fun x => xk_L_law ct K R n 1180 ls (vr x :: st) σ k) := exS_step.trans rfl
set_option maxRecDepth 100000 in
theorem ev_L_law_1180 {ct : Nat → Bool} {K : Kt} {R : Option AV → Hp → Prop} {n : Nat} {ls : List (Option AV)} {st : List AV} {σ : Hp} {k : Nat × Nat} : xe_L_law ct K R (n + 1) 1180 ls st σ k = (lI ls 4 fun x => xk_L_law ct K R n 1182 ls (vi x :: st) σ k) := exS_step.trans rfl
set_option maxRecDepth 100000 in
theorem ev_L_law_1182 {ct : Nat → Bool} {K : Kt} {R : Option AV → Hp → Prop} {n : Nat} {ls : List (Option AV)} {st : List AV} {σ : Hp} {k : Nat × Nat} : xe_L_law ct K R (n + 1) 1182 ls st σ k = (xk_L_law ct K R n 1183 ls (vi (1) :: st) σ k) := exS_step.trans rfl
set_option maxRecDepth 100000 in
theorem ev_L_law_1183 {ct : Nat → Bool} {K : Kt} {R : Option AV → Hp → Prop} {n : Nat} {ls : List (Option AV)} {st : List AV} {σ : Hp} {k : Nat × Nat} : xe_L_law ct K R (n + 1) 1183 ls st σ k = (oI st fun y st => oI st fun x st => xk_L_law ct K R n 1184 ls (vi (x + y) :: st) σ k) := exS_step.trans rfl
set_option maxRecDepth 100000 in
theorem ev_L_law_1184 {ct : Nat → Bool} {K : Kt} {R : Option AV → Hp → Prop} {n : Nat} {ls : List (Option AV)} {st : List AV} {σ : Hp} {k : Nat × Nat} : xe_L_law ct K R (n + 1) 1184 ls st σ k = (oI st fun j st => oR st fun x st => (kd σ x = 101 ∨ kd σ x = 108) ∧ (0 ≤ j ∧ j < ln σ x) ∧ xk_L_law ct K R n 1185 ls (vi (aI σ x j) :: st) σ k) := exS_step.trans rfl
set_option maxRecDepth 100000 in
theorem ev_L_law_1185 {ct : Nat → Bool} {K : Kt} {R : Option AV → Hp → Prop} {n : Nat} {ls : List (Option AV)} {st : List AV} {σ : Hp} {k : Nat × Nat} : xe_L_law ct K R (n + 1) 1185 ls st σ k = (lR ls 0 fun x => xk_L_law ct K R n 1186 ls (vr x :: st) σ k) := exS_step.trans rfl
set_option maxRecDepth 100000 in
theorem ev_L_law_1186 {ct : Nat → Bool} {K : Kt} {R : Option AV → Hp → Prop} {n : Nat} {ls : List (Option AV)} {st : List AV} {σ : Hp} {k : Nat × Nat} : xe_L_law ct K R (n + 1) 1186 ls st σ k = (lI ls 4 fun x => xk_L_law ct K R n 1188 ls (vi x :: st) σ k) := exS_step.trans rfl
set_option maxRecDepth 100000 in
theorem ev_L_law_1188 {ct : Nat → Bool} {K : Kt} {R : Option AV → Hp → Prop} {n : Nat} {ls : List (Option AV)} {st : List AV} {σ : Hp} {k : Nat × Nat} : xe_L_law ct K R (n + 1) 1188 ls st σ k = (xk_L_law ct K R n 1189 ls (vi (2) :: st) σ k) := exS_step.trans rfl
set_option maxRecDepth 100000 in
theorem ev_L_law_1189 {ct : Nat → Bool} {K : Kt} {R : Option AV → Hp → Prop} {n : Nat} {ls : List (Option AV)} {st : List AV} {σ : Hp} {k : Nat × Nat} : xe_L_law ct K R (n + 1) 1189 ls st σ k = (oI st fun y st => oI st fun x st => xk_L_law ct K R n 1190 ls (vi (x + y) :: st) σ k) := exS_step.trans rfl
set_option maxRecDepth 100000 in
theorem ev_L_law_1190 {ct : Nat → Bool} {K : Kt} {R : Option AV → Hp → Prop} {n : Nat} {ls : List (Option AV)} {st : List AV} {σ : Hp} {k : Nat × Nat} : xe_L_law ct K R (n + 1) 1190 ls st σ k = (oI st fun j st => oR st fun x st => (kd σ x = 101 ∨ kd σ x = 108) ∧ (0 ≤ j ∧ j < ln σ x) ∧ xk_L_law ct K R n 1191 ls (vi (aI σ x j) :: st) σ k) := exS_step.trans rfl
set_option maxRecDepth 100000 in
theorem ev_L_law_1191 {ct : Nat → Bool} {K : Kt} {R : Option AV → Hp → Prop} {n : Nat} {ls : List (Option AV)} {st : List AV} {σ : Hp} {k : Nat × Nat} : xe_L_law ct K R (n + 1) 1191 ls st σ k = (popN 3 st [] fun av rest => (catS rest ≤ 8 ∧ 7 < 45 ∧ k.1 + 0 ≤ 601024 ∧ k.2 + 0 ≤ 7293034) ∧ (sp_X11_rate) av σ fun v σ' => xk_L_law ct K R n 1194 ls (v.toList ++ rest) σ' (k.1 + 0, k.2 + 0)) := exS_step.trans rfl
set_option maxRecDepth 100000 in
theorem ev_L_law_1194 {ct : Nat → Bool} {K : Kt} {R : Option AV → Hp → Prop} {n : Nat} {ls : List (Option AV)} {st : List AV} {σ : Hp} {k : Nat × Nat} : xe_L_law ct K R (n + 1) 1194 ls st σ k = (lR ls 2 fun x => xk_L_law ct K R n 1195 ls (vr x :: st) σ k) := exS_step.trans rfl
set_option maxRecDepth 100000 in
theorem ev_L_law_1195 {ct : Nat → Bool} {K : Kt} {R : Option AV → Hp → Prop} {n : Nat} {ls : List (Option AV)} {st : List AV} {σ : Hp} {k : Nat × Nat} : xe_L_law ct K R (n + 1) 1195 ls st σ k = (lR ls 0 fun x => xk_L_law ct K R n 1196 ls (vr x :: st) σ k) := exS_step.trans rfl
set_option maxRecDepth 100000 in
theorem ev_L_law_1196 {ct : Nat → Bool} {K : Kt} {R : Option AV → Hp → Prop} {n : Nat} {ls : List (Option AV)} {st : List AV} {σ : Hp} {k : Nat × Nat} : xe_L_law ct K R (n + 1) 1196 ls st σ k = (lI ls 4 fun x => xk_L_law ct K R n 1198 ls (vi x :: st) σ k) := exS_step.trans rfl
set_option maxRecDepth 100000 in
theorem ev_L_law_1198 {ct : Nat → Bool} {K : Kt} {R : Option AV → Hp → Prop} {n : Nat} {ls : List (Option AV)} {st : List AV} {σ : Hp} {k : Nat × Nat} : xe_L_law ct K R (n + 1) 1198 ls st σ k = (xk_L_law ct K R n 1199 ls (vi (1) :: st) σ k) := exS_step.trans rfl
set_option maxRecDepth 100000 in
theorem ev_L_law_1199 {ct : Nat → Bool} {K : Kt} {R : Option AV → Hp → Prop} {n : Nat} {ls : List (Option AV)} {st : List AV} {σ : Hp} {k : Nat × Nat} : xe_L_law ct K R (n + 1) 1199 ls st σ k = (oI st fun y st => oI st fun x st => xk_L_law ct K R n 1200 ls (vi (x + y) :: st) σ k) := exS_step.trans rfl
set_option maxRecDepth 100000 in
theorem ev_L_law_1200 {ct : Nat → Bool} {K : Kt} {R : Option AV → Hp → Prop} {n : Nat} {ls : List (Option AV)} {st : List AV} {σ : Hp} {k : Nat × Nat} : xe_L_law ct K R (n + 1) 1200 ls st σ k = (oI st fun j st => oR st fun x st => (kd σ x = 101 ∨ kd σ x = 108) ∧ (0 ≤ j ∧ j < ln σ x) ∧ xk_L_law ct K R n 1201 ls (vi (aI σ x j) :: st) σ k) := exS_step.trans rfl
set_option maxRecDepth 100000 in
theorem ev_L_law_1201 {ct : Nat → Bool} {K : Kt} {R : Option AV → Hp → Prop} {n : Nat} {ls : List (Option AV)} {st : List AV} {σ : Hp} {k : Nat × Nat} : xe_L_law ct K R (n + 1) 1201 ls st σ k = (lR ls 0 fun x => xk_L_law ct K R n 1202 ls (vr x :: st) σ k) := exS_step.trans rfl
set_option maxRecDepth 100000 in
theorem ev_L_law_1202 {ct : Nat → Bool} {K : Kt} {R : Option AV → Hp → Prop} {n : Nat} {ls : List (Option AV)} {st : List AV} {σ : Hp} {k : Nat × Nat} : xe_L_law ct K R (n + 1) 1202 ls st σ k = (lI ls 4 fun x => xk_L_law ct K R n 1204 ls (vi x :: st) σ k) := exS_step.trans rfl
set_option maxRecDepth 100000 in
theorem ev_L_law_1204 {ct : Nat → Bool} {K : Kt} {R : Option AV → Hp → Prop} {n : Nat} {ls : List (Option AV)} {st : List AV} {σ : Hp} {k : Nat × Nat} : xe_L_law ct K R (n + 1) 1204 ls st σ k = (xk_L_law ct K R n 1205 ls (vi (2) :: st) σ k) := exS_step.trans rfl
set_option maxRecDepth 100000 in
theorem ev_L_law_1205 {ct : Nat → Bool} {K : Kt} {R : Option AV → Hp → Prop} {n : Nat} {ls : List (Option AV)} {st : List AV} {σ : Hp} {k : Nat × Nat} : xe_L_law ct K R (n + 1) 1205 ls st σ k = (oI st fun y st => oI st fun x st => xk_L_law ct K R n 1206 ls (vi (x + y) :: st) σ k) := exS_step.trans rfl
set_option maxRecDepth 100000 in
theorem ev_L_law_1206 {ct : Nat → Bool} {K : Kt} {R : Option AV → Hp → Prop} {n : Nat} {ls : List (Option AV)} {st : List AV} {σ : Hp} {k : Nat × Nat} : xe_L_law ct K R (n + 1) 1206 ls st σ k = (oI st fun j st => oR st fun x st => (kd σ x = 101 ∨ kd σ x = 108) ∧ (0 ≤ j ∧ j < ln σ x) ∧ xk_L_law ct K R n 1207 ls (vi (aI σ x j) :: st) σ k) := exS_step.trans rfl
set_option maxRecDepth 100000 in
theorem ev_L_law_1207 {ct : Nat → Bool} {K : Kt} {R : Option AV → Hp → Prop} {n : Nat} {ls : List (Option AV)} {st : List AV} {σ : Hp} {k : Nat × Nat} : xe_L_law ct K R (n + 1) 1207 ls st σ k = (popN 3 st [] fun av rest => (catS rest ≤ 8 ∧ 3 < 45 ∧ k.1 + 0 ≤ 601024 ∧ k.2 + 0 ≤ 7293034) ∧ (sp_X12_rate) av σ fun v σ' => xk_L_law ct K R n 1210 ls (v.toList ++ rest) σ' (k.1 + 0, k.2 + 0)) := exS_step.trans rfl
set_option maxRecDepth 100000 in
theorem ev_L_law_1210 {ct : Nat → Bool} {K : Kt} {R : Option AV → Hp → Prop} {n : Nat} {ls : List (Option AV)} {st : List AV} {σ : Hp} {k : Nat × Nat} : xe_L_law ct K R (n + 1) 1210 ls st σ k = (oI st fun y st => oI st fun x st => (wI x = wI y → xk_L_law ct K R n 1333 ls st σ k) ∧ (¬ (wI x = wI y) → xk_L_law ct K R n 1213 ls st σ k)) := exS_step.trans rfl
set_option maxRecDepth 100000 in
theorem ev_L_law_1213 {ct : Nat → Bool} {K : Kt} {R : Option AV → Hp → Prop} {n : Nat} {ls : List (Option AV)} {st : List AV} {σ : Hp} {k : Nat × Nat} : xe_L_law ct K R (n + 1) 1213 ls st σ k = (xk_L_law ct K R n 1214 ls (vi (0) :: st) σ k) := exS_step.trans rfl
set_option maxRecDepth 100000 in
theorem ev_L_law_1214 {ct : Nat → Bool} {K : Kt} {R : Option AV → Hp → Prop} {n : Nat} {ls : List (Option AV)} {st : List AV} {σ : Hp} {k : Nat × Nat} : xe_L_law ct K R (n + 1) 1214 ls st σ k = (oI st fun x st => st = [] ∧ (x = 0 ∨ x = 1) ∧ R (some (vi x)) σ) := exS_step.trans rfl
set_option maxRecDepth 100000 in
theorem ev_L_law_1215 {ct : Nat → Bool} {K : Kt} {R : Option AV → Hp → Prop} {n : Nat} {ls : List (Option AV)} {st : List AV} {σ : Hp} {k : Nat × Nat} : xe_L_law ct K R (n + 1) 1215 ls st σ k = (lR ls 1 fun x => xk_L_law ct K R n 1216 ls (vr x :: st) σ k) := exS_step.trans rfl
set_option maxRecDepth 100000 in
theorem ev_L_law_1216 {ct : Nat → Bool} {K : Kt} {R : Option AV → Hp → Prop} {n : Nat} {ls : List (Option AV)} {st : List AV} {σ : Hp} {k : Nat × Nat} : xe_L_law ct K R (n + 1) 1216 ls st σ k = (lR ls 0 fun x => xk_L_law ct K R n 1217 ls (vr x :: st) σ k) := exS_step.trans rfl
set_option maxRecDepth 100000 in
theorem ev_L_law_1217 {ct : Nat → Bool} {K : Kt} {R : Option AV → Hp → Prop} {n : Nat} {ls : List (Option AV)} {st : List AV} {σ : Hp} {k : Nat × Nat} : xe_L_law ct K R (n + 1) 1217 ls st σ k = (lI ls 4 fun x => xk_L_law ct K R n 1219 ls (vi x :: st) σ k) := exS_step.trans rfl
set_option maxRecDepth 100000 in
theorem ev_L_law_1219 {ct : Nat → Bool} {K : Kt} {R : Option AV → Hp → Prop} {n : Nat} {ls : List (Option AV)} {st : List AV} {σ : Hp} {k : Nat × Nat} : xe_L_law ct K R (n + 1) 1219 ls st σ k = (xk_L_law ct K R n 1220 ls (vi (1) :: st) σ k) := exS_step.trans rfl
set_option maxRecDepth 100000 in
theorem ev_L_law_1220 {ct : Nat → Bool} {K : Kt} {R : Option AV → Hp → Prop} {n : Nat} {ls : List (Option AV)} {st : List AV} {σ : Hp} {k : Nat × Nat} : xe_L_law ct K R (n + 1) 1220 ls st σ k = (oI st fun y st => oI st fun x st => xk_L_law ct K R n 1221 ls (vi (x + y) :: st) σ k) := exS_step.trans rfl
set_option maxRecDepth 100000 in
theorem ev_L_law_1221 {ct : Nat → Bool} {K : Kt} {R : Option AV → Hp → Prop} {n : Nat} {ls : List (Option AV)} {st : List AV} {σ : Hp} {k : Nat × Nat} : xe_L_law ct K R (n + 1) 1221 ls st σ k = (oI st fun j st => oR st fun x st => (kd σ x = 101 ∨ kd σ x = 108) ∧ (0 ≤ j ∧ j < ln σ x) ∧ xk_L_law ct K R n 1222 ls (vi (aI σ x j) :: st) σ k) := exS_step.trans rfl
set_option maxRecDepth 100000 in
theorem ev_L_law_1222 {ct : Nat → Bool} {K : Kt} {R : Option AV → Hp → Prop} {n : Nat} {ls : List (Option AV)} {st : List AV} {σ : Hp} {k : Nat × Nat} : xe_L_law ct K R (n + 1) 1222 ls st σ k = (popN 2 st [] fun av rest => (catS rest ≤ 8 ∧ 7 < 45 ∧ k.1 + 0 ≤ 601024 ∧ k.2 + 0 ≤ 7293034) ∧ (sp_X11_worst) av σ fun v σ' => xk_L_law ct K R n 1225 ls (v.toList ++ rest) σ' (k.1 + 0, k.2 + 0)) := exS_step.trans rfl
set_option maxRecDepth 100000 in
theorem ev_L_law_1225 {ct : Nat → Bool} {K : Kt} {R : Option AV → Hp → Prop} {n : Nat} {ls : List (Option AV)} {st : List AV} {σ : Hp} {k : Nat × Nat} : xe_L_law ct K R (n + 1) 1225 ls st σ k = (lR ls 2 fun x => xk_L_law ct K R n 1226 ls (vr x :: st) σ k) := exS_step.trans rfl
set_option maxRecDepth 100000 in
theorem ev_L_law_1226 {ct : Nat → Bool} {K : Kt} {R : Option AV → Hp → Prop} {n : Nat} {ls : List (Option AV)} {st : List AV} {σ : Hp} {k : Nat × Nat} : xe_L_law ct K R (n + 1) 1226 ls st σ k = (lR ls 0 fun x => xk_L_law ct K R n 1227 ls (vr x :: st) σ k) := exS_step.trans rfl
set_option maxRecDepth 100000 in
theorem ev_L_law_1227 {ct : Nat → Bool} {K : Kt} {R : Option AV → Hp → Prop} {n : Nat} {ls : List (Option AV)} {st : List AV} {σ : Hp} {k : Nat × Nat} : xe_L_law ct K R (n + 1) 1227 ls st σ k = (lI ls 4 fun x => xk_L_law ct K R n 1229 ls (vi x :: st) σ k) := exS_step.trans rfl
set_option maxRecDepth 100000 in
theorem ev_L_law_1229 {ct : Nat → Bool} {K : Kt} {R : Option AV → Hp → Prop} {n : Nat} {ls : List (Option AV)} {st : List AV} {σ : Hp} {k : Nat × Nat} : xe_L_law ct K R (n + 1) 1229 ls st σ k = (xk_L_law ct K R n 1230 ls (vi (1) :: st) σ k) := exS_step.trans rfl
set_option maxRecDepth 100000 in
theorem ev_L_law_1230 {ct : Nat → Bool} {K : Kt} {R : Option AV → Hp → Prop} {n : Nat} {ls : List (Option AV)} {st : List AV} {σ : Hp} {k : Nat × Nat} : xe_L_law ct K R (n + 1) 1230 ls st σ k = (oI st fun y st => oI st fun x st => xk_L_law ct K R n 1231 ls (vi (x + y) :: st) σ k) := exS_step.trans rfl
set_option maxRecDepth 100000 in
theorem ev_L_law_1231 {ct : Nat → Bool} {K : Kt} {R : Option AV → Hp → Prop} {n : Nat} {ls : List (Option AV)} {st : List AV} {σ : Hp} {k : Nat × Nat} : xe_L_law ct K R (n + 1) 1231 ls st σ k = (oI st fun j st => oR st fun x st => (kd σ x = 101 ∨ kd σ x = 108) ∧ (0 ≤ j ∧ j < ln σ x) ∧ xk_L_law ct K R n 1232 ls (vi (aI σ x j) :: st) σ k) := exS_step.trans rfl
set_option maxRecDepth 100000 in
theorem ev_L_law_1232 {ct : Nat → Bool} {K : Kt} {R : Option AV → Hp → Prop} {n : Nat} {ls : List (Option AV)} {st : List AV} {σ : Hp} {k : Nat × Nat} : xe_L_law ct K R (n + 1) 1232 ls st σ k = (popN 2 st [] fun av rest => (catS rest ≤ 8 ∧ 3 < 45 ∧ k.1 + 0 ≤ 601024 ∧ k.2 + 0 ≤ 7293034) ∧ (sp_X12_worst) av σ fun v σ' => xk_L_law ct K R n 1235 ls (v.toList ++ rest) σ' (k.1 + 0, k.2 + 0)) := exS_step.trans rfl
set_option maxRecDepth 100000 in
theorem ev_L_law_1235 {ct : Nat → Bool} {K : Kt} {R : Option AV → Hp → Prop} {n : Nat} {ls : List (Option AV)} {st : List AV} {σ : Hp} {k : Nat × Nat} : xe_L_law ct K R (n + 1) 1235 ls st σ k = (oI st fun y st => oI st fun x st => (wI x = wI y → xk_L_law ct K R n 1333 ls st σ k) ∧ (¬ (wI x = wI y) → xk_L_law ct K R n 1238 ls st σ k)) := exS_step.trans rfl
set_option maxRecDepth 100000 in
theorem ev_L_law_1238 {ct : Nat → Bool} {K : Kt} {R : Option AV → Hp → Prop} {n : Nat} {ls : List (Option AV)} {st : List AV} {σ : Hp} {k : Nat × Nat} : xe_L_law ct K R (n + 1) 1238 ls st σ k = (xk_L_law ct K R n 1239 ls (vi (0) :: st) σ k) := exS_step.trans rfl
set_option maxRecDepth 100000 in
theorem ev_L_law_1239 {ct : Nat → Bool} {K : Kt} {R : Option AV → Hp → Prop} {n : Nat} {ls : List (Option AV)} {st : List AV} {σ : Hp} {k : Nat × Nat} : xe_L_law ct K R (n + 1) 1239 ls st σ k = (oI st fun x st => st = [] ∧ (x = 0 ∨ x = 1) ∧ R (some (vi x)) σ) := exS_step.trans rfl
set_option maxRecDepth 100000 in
theorem ev_L_law_1240 {ct : Nat → Bool} {K : Kt} {R : Option AV → Hp → Prop} {n : Nat} {ls : List (Option AV)} {st : List AV} {σ : Hp} {k : Nat × Nat} : xe_L_law ct K R (n + 1) 1240 ls st σ k = (lR ls 1 fun x => xk_L_law ct K R n 1241 ls (vr x :: st) σ k) := exS_step.trans rfl
set_option maxRecDepth 100000 in
theorem ev_L_law_1241 {ct : Nat → Bool} {K : Kt} {R : Option AV → Hp → Prop} {n : Nat} {ls : List (Option AV)} {st : List AV} {σ : Hp} {k : Nat × Nat} : xe_L_law ct K R (n + 1) 1241 ls st σ k = (lR ls 0 fun x => xk_L_law ct K R n 1242 ls (vr x :: st) σ k) := exS_step.trans rfl
set_option maxRecDepth 100000 in
theorem ev_L_law_1242 {ct : Nat → Bool} {K : Kt} {R : Option AV → Hp → Prop} {n : Nat} {ls : List (Option AV)} {st : List AV} {σ : Hp} {k : Nat × Nat} : xe_L_law ct K R (n + 1) 1242 ls st σ k = (lI ls 4 fun x => xk_L_law ct K R n 1244 ls (vi x :: st) σ k) := exS_step.trans rfl
set_option maxRecDepth 100000 in
theorem ev_L_law_1244 {ct : Nat → Bool} {K : Kt} {R : Option AV → Hp → Prop} {n : Nat} {ls : List (Option AV)} {st : List AV} {σ : Hp} {k : Nat × Nat} : xe_L_law ct K R (n + 1) 1244 ls st σ k = (xk_L_law ct K R n 1245 ls (vi (1) :: st) σ k) := exS_step.trans rfl
set_option maxRecDepth 100000 in
theorem ev_L_law_1245 {ct : Nat → Bool} {K : Kt} {R : Option AV → Hp → Prop} {n : Nat} {ls : List (Option AV)} {st : List AV} {σ : Hp} {k : Nat × Nat} : xe_L_law ct K R (n + 1) 1245 ls st σ k = (oI st fun y st => oI st fun x st => xk_L_law ct K R n 1246 ls (vi (x + y) :: st) σ k) := exS_step.trans rfl
set_option maxRecDepth 100000 in
theorem ev_L_law_1246 {ct : Nat → Bool} {K : Kt} {R : Option AV → Hp → Prop} {n : Nat} {ls : List (Option AV)} {st : List AV} {σ : Hp} {k : Nat × Nat} : xe_L_law ct K R (n + 1) 1246 ls st σ k = (oI st fun j st => oR st fun x st => (kd σ x = 101 ∨ kd σ x = 108) ∧ (0 ≤ j ∧ j < ln σ x) ∧ xk_L_law ct K R n 1247 ls (vi (aI σ x j) :: st) σ k) := exS_step.trans rfl
set_option maxRecDepth 100000 in
theorem ev_L_law_1247 {ct : Nat → Bool} {K : Kt} {R : Option AV → Hp → Prop} {n : Nat} {ls : List (Option AV)} {st : List AV} {σ : Hp} {k : Nat × Nat} : xe_L_law ct K R (n + 1) 1247 ls st σ k = (lR ls 0 fun x => xk_L_law ct K R n 1248 ls (vr x :: st) σ k) := exS_step.trans rfl
set_option maxRecDepth 100000 in
theorem ev_L_law_1248 {ct : Nat → Bool} {K : Kt} {R : Option AV → Hp → Prop} {n : Nat} {ls : List (Option AV)} {st : List AV} {σ : Hp} {k : Nat × Nat} : xe_L_law ct K R (n + 1) 1248 ls st σ k = (lI ls 4 fun x => xk_L_law ct K R n 1250 ls (vi x :: st) σ k) := exS_step.trans rfl
set_option maxRecDepth 100000 in
theorem ev_L_law_1250 {ct : Nat → Bool} {K : Kt} {R : Option AV → Hp → Prop} {n : Nat} {ls : List (Option AV)} {st : List AV} {σ : Hp} {k : Nat × Nat} : xe_L_law ct K R (n + 1) 1250 ls st σ k = (xk_L_law ct K R n 1251 ls (vi (2) :: st) σ k) := exS_step.trans rfl
set_option maxRecDepth 100000 in
theorem ev_L_law_1251 {ct : Nat → Bool} {K : Kt} {R : Option AV → Hp → Prop} {n : Nat} {ls : List (Option AV)} {st : List AV} {σ : Hp} {k : Nat × Nat} : xe_L_law ct K R (n + 1) 1251 ls st σ k = (oI st fun y st => oI st fun x st => xk_L_law ct K R n 1252 ls (vi (x + y) :: st) σ k) := exS_step.trans rfl
set_option maxRecDepth 100000 in
theorem ev_L_law_1252 {ct : Nat → Bool} {K : Kt} {R : Option AV → Hp → Prop} {n : Nat} {ls : List (Option AV)} {st : List AV} {σ : Hp} {k : Nat × Nat} : xe_L_law ct K R (n + 1) 1252 ls st σ k = (oI st fun j st => oR st fun x st => (kd σ x = 101 ∨ kd σ x = 108) ∧ (0 ≤ j ∧ j < ln σ x) ∧ xk_L_law ct K R n 1253 ls (vi (aI σ x j) :: st) σ k) := exS_step.trans rfl
set_option maxRecDepth 100000 in
theorem ev_L_law_1253 {ct : Nat → Bool} {K : Kt} {R : Option AV → Hp → Prop} {n : Nat} {ls : List (Option AV)} {st : List AV} {σ : Hp} {k : Nat × Nat} : xe_L_law ct K R (n + 1) 1253 ls st σ k = (lR ls 3 fun x => xk_L_law ct K R n 1254 ls (vr x :: st) σ k) := exS_step.trans rfl
set_option maxRecDepth 100000 in
theorem ev_L_law_1257 {ct : Nat → Bool} {K : Kt} {R : Option AV → Hp → Prop} {n : Nat} {ls : List (Option AV)} {st : List AV} {σ : Hp} {k : Nat × Nat} : xe_L_law ct K R (n + 1) 1257 ls st σ k = (oI st fun x st => 5 < 7 ∧ xk_L_law ct K R n 1259 (stL ls 5 (vi x)) st σ k) := exS_step.trans rfl
set_option maxRecDepth 100000 in
theorem ev_L_law_1259 {ct : Nat → Bool} {K : Kt} {R : Option AV → Hp → Prop} {n : Nat} {ls : List (Option AV)} {st : List AV} {σ : Hp} {k : Nat × Nat} : xe_L_law ct K R (n + 1) 1259 ls st σ k = (lR ls 2 fun x => xk_L_law ct K R n 1260 ls (vr x :: st) σ k) := exS_step.trans rfl
set_option maxRecDepth 100000 in
theorem ev_L_law_1260 {ct : Nat → Bool} {K : Kt} {R : Option AV → Hp → Prop} {n : Nat} {ls : List (Option AV)} {st : List AV} {σ : Hp} {k : Nat × Nat} : xe_L_law ct K R (n + 1) 1260 ls st σ k = (lR ls 0 fun x => xk_L_law ct K R n 1261 ls (vr x :: st) σ k) := exS_step.trans rfl
set_option maxRecDepth 100000 in
theorem ev_L_law_1261 {ct : Nat → Bool} {K : Kt} {R : Option AV → Hp → Prop} {n : Nat} {ls : List (Option AV)} {st : List AV} {σ : Hp} {k : Nat × Nat} : xe_L_law ct K R (n + 1) 1261 ls st σ k = (lI ls 4 fun x => xk_L_law ct K R n 1263 ls (vi x :: st) σ k) := exS_step.trans rfl
set_option maxRecDepth 100000 in
theorem ev_L_law_1263 {ct : Nat → Bool} {K : Kt} {R : Option AV → Hp → Prop} {n : Nat} {ls : List (Option AV)} {st : List AV} {σ : Hp} {k : Nat × Nat} : xe_L_law ct K R (n + 1) 1263 ls st σ k = (xk_L_law ct K R n 1264 ls (vi (1) :: st) σ k) := exS_step.trans rfl
set_option maxRecDepth 100000 in
theorem ev_L_law_1264 {ct : Nat → Bool} {K : Kt} {R : Option AV → Hp → Prop} {n : Nat} {ls : List (Option AV)} {st : List AV} {σ : Hp} {k : Nat × Nat} : xe_L_law ct K R (n + 1) 1264 ls st σ k = (oI st fun y st => oI st fun x st => xk_L_law ct K R n 1265 ls (vi (x + y) :: st) σ k) := exS_step.trans rfl
set_option maxRecDepth 100000 in
theorem ev_L_law_1265 {ct : Nat → Bool} {K : Kt} {R : Option AV → Hp → Prop} {n : Nat} {ls : List (Option AV)} {st : List AV} {σ : Hp} {k : Nat × Nat} : xe_L_law ct K R (n + 1) 1265 ls st σ k = (oI st fun j st => oR st fun x st => (kd σ x = 101 ∨ kd σ x = 108) ∧ (0 ≤ j ∧ j < ln σ x) ∧ xk_L_law ct K R n 1266 ls (vi (aI σ x j) :: st) σ k) := exS_step.trans rfl
set_option maxRecDepth 100000 in
theorem ev_L_law_1266 {ct : Nat → Bool} {K : Kt} {R : Option AV → Hp → Prop} {n : Nat} {ls : List (Option AV)} {st : List AV} {σ : Hp} {k : Nat × Nat} : xe_L_law ct K R (n + 1) 1266 ls st σ k = (lR ls 0 fun x => xk_L_law ct K R n 1267 ls (vr x :: st) σ k) := exS_step.trans rfl
set_option maxRecDepth 100000 in
theorem ev_L_law_1267 {ct : Nat → Bool} {K : Kt} {R : Option AV → Hp → Prop} {n : Nat} {ls : List (Option AV)} {st : List AV} {σ : Hp} {k : Nat × Nat} : xe_L_law ct K R (n + 1) 1267 ls st σ k = (lI ls 4 fun x => xk_L_law ct K R n 1269 ls (vi x :: st) σ k) := exS_step.trans rfl
set_option maxRecDepth 100000 in
theorem ev_L_law_1269 {ct : Nat → Bool} {K : Kt} {R : Option AV → Hp → Prop} {n : Nat} {ls : List (Option AV)} {st : List AV} {σ : Hp} {k : Nat × Nat} : xe_L_law ct K R (n + 1) 1269 ls st σ k = (xk_L_law ct K R n 1270 ls (vi (2) :: st) σ k) := exS_step.trans rfl
set_option maxRecDepth 100000 in
theorem ev_L_law_1270 {ct : Nat → Bool} {K : Kt} {R : Option AV → Hp → Prop} {n : Nat} {ls : List (Option AV)} {st : List AV} {σ : Hp} {k : Nat × Nat} : xe_L_law ct K R (n + 1) 1270 ls st σ k = (oI st fun y st => oI st fun x st => xk_L_law ct K R n 1271 ls (vi (x + y) :: st) σ k) := exS_step.trans rfl
set_option maxRecDepth 100000 in
theorem ev_L_law_1271 {ct : Nat → Bool} {K : Kt} {R : Option AV → Hp → Prop} {n : Nat} {ls : List (Option AV)} {st : List AV} {σ : Hp} {k : Nat × Nat} : xe_L_law ct K R (n + 1) 1271 ls st σ k = (oI st fun j st => oR st fun x st => (kd σ x = 101 ∨ kd σ x = 108) ∧ (0 ≤ j ∧ j < ln σ x) ∧ xk_L_law ct K R n 1272 ls (vi (aI σ x j) :: st) σ k) := exS_step.trans rfl
set_option maxRecDepth 100000 in
theorem ev_L_law_1272 {ct : Nat → Bool} {K : Kt} {R : Option AV → Hp → Prop} {n : Nat} {ls : List (Option AV)} {st : List AV} {σ : Hp} {k : Nat × Nat} : xe_L_law ct K R (n + 1) 1272 ls st σ k = (popN 3 st [] fun av rest => (catS rest ≤ 8 ∧ 4 < 45 ∧ k.1 + 0 ≤ 601024 ∧ k.2 + 0 ≤ 7293034) ∧ (sp_X12_look) av σ fun v σ' => xk_L_law ct K R n 1275 ls (v.toList ++ rest) σ' (k.1 + 0, k.2 + 0)) := exS_step.trans rfl
set_option maxRecDepth 100000 in
theorem ev_L_law_1275 {ct : Nat → Bool} {K : Kt} {R : Option AV → Hp → Prop} {n : Nat} {ls : List (Option AV)} {st : List AV} {σ : Hp} {k : Nat × Nat} : xe_L_law ct K R (n + 1) 1275 ls st σ k = (oI st fun x st => 6 < 7 ∧ xk_L_law ct K R n 1277 (stL ls 6 (vi x)) st σ k) := exS_step.trans rfl
set_option maxRecDepth 100000 in
theorem ev_L_law_1277 {ct : Nat → Bool} {K : Kt} {R : Option AV → Hp → Prop} {n : Nat} {ls : List (Option AV)} {st : List AV} {σ : Hp} {k : Nat × Nat} : xe_L_law ct K R (n + 1) 1277 ls st σ k = (lR ls 2 fun x => xk_L_law ct K R n 1278 ls (vr x :: st) σ k) := exS_step.trans rfl
set_option maxRecDepth 100000 in
theorem ev_L_law_1278 {ct : Nat → Bool} {K : Kt} {R : Option AV → Hp → Prop} {n : Nat} {ls : List (Option AV)} {st : List AV} {σ : Hp} {k : Nat × Nat} : xe_L_law ct K R (n + 1) 1278 ls st σ k = (popN 1 st [] fun av rest => (catS rest ≤ 8 ∧ 1 < 45 ∧ k.1 + 0 ≤ 601024 ∧ k.2 + 0 ≤ 7293034) ∧ (sp_X12_thrown) av σ fun v σ' => xk_L_law ct K R n 1281 ls (v.toList ++ rest) σ' (k.1 + 0, k.2 + 0)) := exS_step.trans rfl
set_option maxRecDepth 100000 in
theorem ev_L_law_1281 {ct : Nat → Bool} {K : Kt} {R : Option AV → Hp → Prop} {n : Nat} {ls : List (Option AV)} {st : List AV} {σ : Hp} {k : Nat × Nat} : xe_L_law ct K R (n + 1) 1281 ls st σ k = (lI ls 5 fun x => xk_L_law ct K R n 1283 ls (vi x :: st) σ k) := exS_step.trans rfl
set_option maxRecDepth 100000 in
theorem ev_L_law_1283 {ct : Nat → Bool} {K : Kt} {R : Option AV → Hp → Prop} {n : Nat} {ls : List (Option AV)} {st : List AV} {σ : Hp} {k : Nat × Nat} : xe_L_law ct K R (n + 1) 1283 ls st σ k = (oI st fun y st => oI st fun x st => (wI x = wI y → xk_L_law ct K R n 1288 ls st σ k) ∧ (¬ (wI x = wI y) → xk_L_law ct K R n 1286 ls st σ k)) := exS_step.trans rfl
set_option maxRecDepth 100000 in
theorem ev_L_law_1286 {ct : Nat → Bool} {K : Kt} {R : Option AV → Hp → Prop} {n : Nat} {ls : List (Option AV)} {st : List AV} {σ : Hp} {k : Nat × Nat} : xe_L_law ct K R (n + 1) 1286 ls st σ k = (xk_L_law ct K R n 1287 ls (vi (0) :: st) σ k) := exS_step.trans rfl
set_option maxRecDepth 100000 in
theorem ev_L_law_1287 {ct : Nat → Bool} {K : Kt} {R : Option AV → Hp → Prop} {n : Nat} {ls : List (Option AV)} {st : List AV} {σ : Hp} {k : Nat × Nat} : xe_L_law ct K R (n + 1) 1287 ls st σ k = (oI st fun x st => st = [] ∧ (x = 0 ∨ x = 1) ∧ R (some (vi x)) σ) := exS_step.trans rfl
set_option maxRecDepth 100000 in
theorem ev_L_law_1288 {ct : Nat → Bool} {K : Kt} {R : Option AV → Hp → Prop} {n : Nat} {ls : List (Option AV)} {st : List AV} {σ : Hp} {k : Nat × Nat} : xe_L_law ct K R (n + 1) 1288 ls st σ k = (lI ls 5 fun x => xk_L_law ct K R n 1290 ls (vi x :: st) σ k) := exS_step.trans rfl
set_option maxRecDepth 100000 in
theorem ev_L_law_1290 {ct : Nat → Bool} {K : Kt} {R : Option AV → Hp → Prop} {n : Nat} {ls : List (Option AV)} {st : List AV} {σ : Hp} {k : Nat × Nat} : xe_L_law ct K R (n + 1) 1290 ls st σ k = (oI st fun x st => (¬ wI x = wI 0 → xk_L_law ct K R n 1305 ls st σ k) ∧ (¬ (¬ wI x = wI 0) → xk_L_law ct K R n 1293 ls st σ k)) := exS_step.trans rfl
set_option maxRecDepth 100000 in
theorem ev_L_law_1293 {ct : Nat → Bool} {K : Kt} {R : Option AV → Hp → Prop} {n : Nat} {ls : List (Option AV)} {st : List AV} {σ : Hp} {k : Nat × Nat} : xe_L_law ct K R (n + 1) 1293 ls st σ k = (lR ls 3 fun x => xk_L_law ct K R n 1294 ls (vr x :: st) σ k) := exS_step.trans rfl
set_option maxRecDepth 100000 in
theorem ev_L_law_1294 {ct : Nat → Bool} {K : Kt} {R : Option AV → Hp → Prop} {n : Nat} {ls : List (Option AV)} {st : List AV} {σ : Hp} {k : Nat × Nat} : xe_L_law ct K R (n + 1) 1294 ls st σ k = (xk_L_law ct K R n 1295 ls (vi (0) :: st) σ k) := exS_step.trans rfl
set_option maxRecDepth 100000 in
theorem ev_L_law_1295 {ct : Nat → Bool} {K : Kt} {R : Option AV → Hp → Prop} {n : Nat} {ls : List (Option AV)} {st : List AV} {σ : Hp} {k : Nat × Nat} : xe_L_law ct K R (n + 1) 1295 ls st σ k = (oI st fun j st => oR st fun x st => kd σ x = 102 ∧ (0 ≤ j ∧ j < ln σ x) ∧ xk_L_law ct K R n 1296 ls (vl (aL σ x j) :: st) σ k) := exS_step.trans rfl
set_option maxRecDepth 100000 in
theorem ev_L_law_1296 {ct : Nat → Bool} {K : Kt} {R : Option AV → Hp → Prop} {n : Nat} {ls : List (Option AV)} {st : List AV} {σ : Hp} {k : Nat × Nat} : xe_L_law ct K R (n + 1) 1296 ls st σ k = (lI ls 6 fun x => xk_L_law ct K R n 1298 ls (vi x :: st) σ k) := exS_step.trans rfl
set_option maxRecDepth 100000 in
theorem ev_L_law_1298 {ct : Nat → Bool} {K : Kt} {R : Option AV → Hp → Prop} {n : Nat} {ls : List (Option AV)} {st : List AV} {σ : Hp} {k : Nat × Nat} : xe_L_law ct K R (n + 1) 1298 ls st σ k = (oI st fun x st => xk_L_law ct K R n 1299 ls (vl (BitVec.ofInt 64 (wI x)) :: st) σ k) := exS_step.trans rfl
set_option maxRecDepth 100000 in
theorem ev_L_law_1299 {ct : Nat → Bool} {K : Kt} {R : Option AV → Hp → Prop} {n : Nat} {ls : List (Option AV)} {st : List AV} {σ : Hp} {k : Nat × Nat} : xe_L_law ct K R (n + 1) 1299 ls st σ k = (oL st fun y st => oL st fun x st => xk_L_law ct K R n 1300 ls (vi (cmL x y) :: st) σ k) := exS_step.trans rfl
set_option maxRecDepth 100000 in
theorem ev_L_law_1300 {ct : Nat → Bool} {K : Kt} {R : Option AV → Hp → Prop} {n : Nat} {ls : List (Option AV)} {st : List AV} {σ : Hp} {k : Nat × Nat} : xe_L_law ct K R (n + 1) 1300 ls st σ k = (oI st fun x st => (wI x = wI 0 → xk_L_law ct K R n 1305 ls st σ k) ∧ (¬ (wI x = wI 0) → xk_L_law ct K R n 1303 ls st σ k)) := exS_step.trans rfl
set_option maxRecDepth 100000 in
theorem ev_L_law_1303 {ct : Nat → Bool} {K : Kt} {R : Option AV → Hp → Prop} {n : Nat} {ls : List (Option AV)} {st : List AV} {σ : Hp} {k : Nat × Nat} : xe_L_law ct K R (n + 1) 1303 ls st σ k = (xk_L_law ct K R n 1304 ls (vi (0) :: st) σ k) := exS_step.trans rfl
set_option maxRecDepth 100000 in
theorem ev_L_law_1304 {ct : Nat → Bool} {K : Kt} {R : Option AV → Hp → Prop} {n : Nat} {ls : List (Option AV)} {st : List AV} {σ : Hp} {k : Nat × Nat} : xe_L_law ct K R (n + 1) 1304 ls st σ k = (oI st fun x st => st = [] ∧ (x = 0 ∨ x = 1) ∧ R (some (vi x)) σ) := exS_step.trans rfl
set_option maxRecDepth 100000 in
theorem ev_L_law_1305 {ct : Nat → Bool} {K : Kt} {R : Option AV → Hp → Prop} {n : Nat} {ls : List (Option AV)} {st : List AV} {σ : Hp} {k : Nat × Nat} : xe_L_law ct K R (n + 1) 1305 ls st σ k = (xk_L_law ct K R n 1333 ls st σ k) := exS_step.trans rfl
set_option maxRecDepth 100000 in
theorem ev_L_law_1308 {ct : Nat → Bool} {K : Kt} {R : Option AV → Hp → Prop} {n : Nat} {ls : List (Option AV)} {st : List AV} {σ : Hp} {k : Nat × Nat} : xe_L_law ct K R (n + 1) 1308 ls st σ k = (lR ls 1 fun x => xk_L_law ct K R n 1309 ls (vr x :: st) σ k) := exS_step.trans rfl
set_option maxRecDepth 100000 in
theorem ev_L_law_1309 {ct : Nat → Bool} {K : Kt} {R : Option AV → Hp → Prop} {n : Nat} {ls : List (Option AV)} {st : List AV} {σ : Hp} {k : Nat × Nat} : xe_L_law ct K R (n + 1) 1309 ls st σ k = (lR ls 0 fun x => xk_L_law ct K R n 1310 ls (vr x :: st) σ k) := exS_step.trans rfl
set_option maxRecDepth 100000 in
theorem ev_L_law_1310 {ct : Nat → Bool} {K : Kt} {R : Option AV → Hp → Prop} {n : Nat} {ls : List (Option AV)} {st : List AV} {σ : Hp} {k : Nat × Nat} : xe_L_law ct K R (n + 1) 1310 ls st σ k = (lI ls 4 fun x => xk_L_law ct K R n 1312 ls (vi x :: st) σ k) := exS_step.trans rfl
set_option maxRecDepth 100000 in
theorem ev_L_law_1312 {ct : Nat → Bool} {K : Kt} {R : Option AV → Hp → Prop} {n : Nat} {ls : List (Option AV)} {st : List AV} {σ : Hp} {k : Nat × Nat} : xe_L_law ct K R (n + 1) 1312 ls st σ k = (xk_L_law ct K R n 1313 ls (vi (1) :: st) σ k) := exS_step.trans rfl
set_option maxRecDepth 100000 in
theorem ev_L_law_1313 {ct : Nat → Bool} {K : Kt} {R : Option AV → Hp → Prop} {n : Nat} {ls : List (Option AV)} {st : List AV} {σ : Hp} {k : Nat × Nat} : xe_L_law ct K R (n + 1) 1313 ls st σ k = (oI st fun y st => oI st fun x st => xk_L_law ct K R n 1314 ls (vi (x + y) :: st) σ k) := exS_step.trans rfl
set_option maxRecDepth 100000 in
theorem ev_L_law_1314 {ct : Nat → Bool} {K : Kt} {R : Option AV → Hp → Prop} {n : Nat} {ls : List (Option AV)} {st : List AV} {σ : Hp} {k : Nat × Nat} : xe_L_law ct K R (n + 1) 1314 ls st σ k = (oI st fun j st => oR st fun x st => (kd σ x = 101 ∨ kd σ x = 108) ∧ (0 ≤ j ∧ j < ln σ x) ∧ xk_L_law ct K R n 1315 ls (vi (aI σ x j) :: st) σ k) := exS_step.trans rfl
set_option maxRecDepth 100000 in
theorem ev_L_law_1315 {ct : Nat → Bool} {K : Kt} {R : Option AV → Hp → Prop} {n : Nat} {ls : List (Option AV)} {st : List AV} {σ : Hp} {k : Nat × Nat} : xe_L_law ct K R (n + 1) 1315 ls st σ k = (popN 2 st [] fun av rest => (catS rest ≤ 8 ∧ 6 < 45 ∧ k.1 + 0 ≤ 601024 ∧ k.2 + 0 ≤ 7293034) ∧ (sp_X11_count) av σ fun v σ' => xk_L_law ct K R n 1318 ls (v.toList ++ rest) σ' (k.1 + 0, k.2 + 0)) := exS_step.trans rfl
set_option maxRecDepth 100000 in
theorem ev_L_law_1318 {ct : Nat → Bool} {K : Kt} {R : Option AV → Hp → Prop} {n : Nat} {ls : List (Option AV)} {st : List AV} {σ : Hp} {k : Nat × Nat} : xe_L_law ct K R (n + 1) 1318 ls st σ k = (lR ls 2 fun x => xk_L_law ct K R n 1319 ls (vr x :: st) σ k) := exS_step.trans rfl
set_option maxRecDepth 100000 in
theorem ev_L_law_1319 {ct : Nat → Bool} {K : Kt} {R : Option AV → Hp → Prop} {n : Nat} {ls : List (Option AV)} {st : List AV} {σ : Hp} {k : Nat × Nat} : xe_L_law ct K R (n + 1) 1319 ls st σ k = (lR ls 0 fun x => xk_L_law ct K R n 1320 ls (vr x :: st) σ k) := exS_step.trans rfl
set_option maxRecDepth 100000 in
theorem ev_L_law_1320 {ct : Nat → Bool} {K : Kt} {R : Option AV → Hp → Prop} {n : Nat} {ls : List (Option AV)} {st : List AV} {σ : Hp} {k : Nat × Nat} : xe_L_law ct K R (n + 1) 1320 ls st σ k = (lI ls 4 fun x => xk_L_law ct K R n 1322 ls (vi x :: st) σ k) := exS_step.trans rfl
set_option maxRecDepth 100000 in
theorem ev_L_law_1322 {ct : Nat → Bool} {K : Kt} {R : Option AV → Hp → Prop} {n : Nat} {ls : List (Option AV)} {st : List AV} {σ : Hp} {k : Nat × Nat} : xe_L_law ct K R (n + 1) 1322 ls st σ k = (xk_L_law ct K R n 1323 ls (vi (1) :: st) σ k) := exS_step.trans rfl
set_option maxRecDepth 100000 in
theorem ev_L_law_1323 {ct : Nat → Bool} {K : Kt} {R : Option AV → Hp → Prop} {n : Nat} {ls : List (Option AV)} {st : List AV} {σ : Hp} {k : Nat × Nat} : xe_L_law ct K R (n + 1) 1323 ls st σ k = (oI st fun y st => oI st fun x st => xk_L_law ct K R n 1324 ls (vi (x + y) :: st) σ k) := exS_step.trans rfl
set_option maxRecDepth 100000 in
theorem ev_L_law_1324 {ct : Nat → Bool} {K : Kt} {R : Option AV → Hp → Prop} {n : Nat} {ls : List (Option AV)} {st : List AV} {σ : Hp} {k : Nat × Nat} : xe_L_law ct K R (n + 1) 1324 ls st σ k = (oI st fun j st => oR st fun x st => (kd σ x = 101 ∨ kd σ x = 108) ∧ (0 ≤ j ∧ j < ln σ x) ∧ xk_L_law ct K R n 1325 ls (vi (aI σ x j) :: st) σ k) := exS_step.trans rfl
set_option maxRecDepth 100000 in
theorem ev_L_law_1325 {ct : Nat → Bool} {K : Kt} {R : Option AV → Hp → Prop} {n : Nat} {ls : List (Option AV)} {st : List AV} {σ : Hp} {k : Nat × Nat} : xe_L_law ct K R (n + 1) 1325 ls st σ k = (popN 2 st [] fun av rest => (catS rest ≤ 8 ∧ 4 < 45 ∧ k.1 + 0 ≤ 601024 ∧ k.2 + 0 ≤ 7293034) ∧ (sp_X12_count) av σ fun v σ' => xk_L_law ct K R n 1328 ls (v.toList ++ rest) σ' (k.1 + 0, k.2 + 0)) := exS_step.trans rfl
set_option maxRecDepth 100000 in
theorem ev_L_law_1328 {ct : Nat → Bool} {K : Kt} {R : Option AV → Hp → Prop} {n : Nat} {ls : List (Option AV)} {st : List AV} {σ : Hp} {k : Nat × Nat} : xe_L_law ct K R (n + 1) 1328 ls st σ k = (oI st fun y st => oI st fun x st => (wI x = wI y → xk_L_law ct K R n 1333 ls st σ k) ∧ (¬ (wI x = wI y) → xk_L_law ct K R n 1331 ls st σ k)) := exS_step.trans rfl
set_option maxRecDepth 100000 in
theorem ev_L_law_1331 {ct : Nat → Bool} {K : Kt} {R : Option AV → Hp → Prop} {n : Nat} {ls : List (Option AV)} {st : List AV} {σ : Hp} {k : Nat × Nat} : xe_L_law ct K R (n + 1) 1331 ls st σ k = (xk_L_law ct K R n 1332 ls (vi (0) :: st) σ k) := exS_step.trans rfl
set_option maxRecDepth 100000 in
theorem ev_L_law_1332 {ct : Nat → Bool} {K : Kt} {R : Option AV → Hp → Prop} {n : Nat} {ls : List (Option AV)} {st : List AV} {σ : Hp} {k : Nat × Nat} : xe_L_law ct K R (n + 1) 1332 ls st σ k = (oI st fun x st => st = [] ∧ (x = 0 ∨ x = 1) ∧ R (some (vi x)) σ) := exS_step.trans rfl
set_option maxRecDepth 100000 in
theorem ev_L_law_1333 {ct : Nat → Bool} {K : Kt} {R : Option AV → Hp → Prop} {n : Nat} {ls : List (Option AV)} {st : List AV} {σ : Hp} {k : Nat × Nat} : xe_L_law ct K R (n + 1) 1333 ls st σ k = (lI ls 4 fun x => 4 < 7 ∧ xk_L_law ct K R n 1336 (stL ls 4 (vi (x + (7)))) st σ k) := exS_step.trans rfl
set_option maxRecDepth 100000 in
theorem ev_L_law_1336 {ct : Nat → Bool} {K : Kt} {R : Option AV → Hp → Prop} {n : Nat} {ls : List (Option AV)} {st : List AV} {σ : Hp} {k : Nat × Nat} : xe_L_law ct K R (n + 1) 1336 ls st σ k = (xk_L_law ct K R n 23 ls st σ k) := exS_step.trans rfl
set_option maxRecDepth 100000 in
theorem ev_L_law_1339 {ct : Nat → Bool} {K : Kt} {R : Option AV → Hp → Prop} {n : Nat} {ls : List (Option AV)} {st : List AV} {σ : Hp} {k : Nat × Nat} : xe_L_law ct K R (n + 1) 1339 ls st σ k = (xk_L_law ct K R n 1340 ls (vi (1) :: st) σ k) := exS_step.trans rfl
set_option maxRecDepth 100000 in
theorem ev_L_law_1340 {ct : Nat → Bool} {K : Kt} {R : Option AV → Hp → Prop} {n : Nat} {ls : List (Option AV)} {st : List AV} {σ : Hp} {k : Nat × Nat} : xe_L_law ct K R (n + 1) 1340 ls st σ k = (oI st fun x st => st = [] ∧ (x = 0 ∨ x = 1) ∧ R (some (vi x)) σ) := exS_step.trans rfl
def M_L_law : Md := (yL_law, cL_law, 7, (some FieldType.boolean), 45, 601024, 7293034, 2, false, tb_L_law, mt_L_law)
theorem mm_L_law : MMOK M_L_law := ⟨by decide +kernel, tk_L_law, mk_L_law, rfl, fun h => by cases h⟩
theorem go_L_law {Q : Option AV → Hp → Prop} {ct : Nat → Bool} {pc : Nat} {ls : List (Option AV)} {st : List AV} {σ : Hp} {k : Nat × Nat} (n : Nat) (h : xe_L_law ct (Go M_L_law Q) Q n pc ls st σ k) : Go M_L_law Q pc ls st σ k := Go.exS mm_L_law h

/-! the law's cases: two calls and a comparison -/
section LC
variable {G : Gt} {l : Launch} {E EF EM : Ev} {cs : Nat × Nat} {O : va_W} {cc : ByteArray} {nL : Nat} {own : String} {rt : Option FieldType} {fr lo : Nat} {pc : Nat} {lv : List (Nat × Value)} {st st2 : List Value}
variable {y : MethodName} {cy : ByteArray} {ny n index : Nat} {ry : Option FieldType} {fr2 lo2 : Nat} {v : Option Value} {mF mM m1 : Mm} {As rest : List Value}
theorem l_callM {T : u_T} {N : Nat} (h1 : EM.1 = E.1) (h2 : EM.2.1 = E.2.1) (C : Cx G E cc nL own rt fr lo) (hM : Ml l EM SX8 y cy ny ry fr2 lo2 (.ref (EM.2.2 0) :: As) mM v m1) (hc : gc[8]? = some (y.cls, T, N)) (w1 : Cond.methodLink own index y ∈ gw) (w2 : Cond.instanceMethod y ∈ gw) (w3 : Cond.selects y.cls y y ∈ gw) (w4 : Cond.initialized y.cls ∈ gw) (w5 : Cond.code y cy ny ry ∈ gw)
    (hd : y.cls ≠ "java/lang/invoke/MethodHandle" ∧ y.cls ≠ "java/lang/invoke/VarHandle" ∧ (parseMethodDescriptor y.desc).map (fun d => d.parameters.length) = some n) (hn : As.length = n) (hfr2 : fr2 + 1 ≤ fr) (hlo2 : 8 + (ny + 11) + lo2 ≤ lo) (hrs : (rest.map fun v => v.category).sum ≤ 8) (hrm : Rm G cs.1 cs.2)
    (d : decode cc pc = .ok (.invokevirtual index, 3)) (hst : As.reverse ++ .ref (EM.2.2 0) :: rest = st) (hst2 : v.toList ++ rest = st2) (k : WG G l E cs ((O ++ wd EF SX7 mF) ++ wd EM SX8 m1) (pc + 3) lv st2) : WG G l E cs ((O ++ wd EF SX7 mF) ++ wd EM SX8 mM) pc lv st :=
  y_callV (o := 0) h1 h2 C hM rfl ⟨_, rfl⟩ hc w1 w2 w3 w4 w5 hd hn hfr2 hlo2 hrs hrm d hst hst2 k
theorem l_callF {T : u_T} {N : Nat} (h1 : EF.1 = E.1) (h2 : EF.2.1 = E.2.1) (C : Cx G E cc nL own rt fr lo) (hM : Ml l EF SX7 y cy ny ry fr2 lo2 (.ref (EF.2.2 0) :: As) mF v m1) (hc : gc[7]? = some (y.cls, T, N)) (w1 : Cond.methodLink own index y ∈ gw) (w2 : Cond.instanceMethod y ∈ gw) (w3 : Cond.selects y.cls y y ∈ gw) (w4 : Cond.initialized y.cls ∈ gw) (w5 : Cond.code y cy ny ry ∈ gw)
    (hd : y.cls ≠ "java/lang/invoke/MethodHandle" ∧ y.cls ≠ "java/lang/invoke/VarHandle" ∧ (parseMethodDescriptor y.desc).map (fun d => d.parameters.length) = some n) (hn : As.length = n) (hfr2 : fr2 + 1 ≤ fr) (hlo2 : 8 + (ny + 11) + lo2 ≤ lo) (hrs : (rest.map fun v => v.category).sum ≤ 8) (hrm : Rm G cs.1 cs.2)
    (d : decode cc pc = .ok (.invokevirtual index, 3)) (hst : As.reverse ++ .ref (EF.2.2 0) :: rest = st) (hst2 : v.toList ++ rest = st2) (k : WG G l E cs ((O ++ wd EF SX7 m1) ++ wd EM SX8 mM) (pc + 3) lv st2) : WG G l E cs ((O ++ wd EF SX7 mF) ++ wd EM SX8 mM) pc lv st := by
  refine y_comm rfl ?_
  refine y_callV (wr := wd EM SX8 mM ++ O) (o := 0) h1 h2 C hM (List.append_assoc _ _ _) ⟨_, rfl⟩ hc w1 w2 w3 w4 w5 hd hn hfr2 hlo2 hrs hrm d hst hst2 ?_
  refine y_w (wd EM SX8 mM ++ (O ++ wd EF SX7 m1)) (List.append_assoc _ _ _) ?_
  exact y_comm rfl k
end LC
abbrev eL_law0 : List (Nat × Instr × Nat) := [(0, .new 8, 3), (3, .dup, 1), (4, .invokespecial 17, 3), (7, .astore_n 1, 1), (8, .new 18, 3), (11, .dup, 1), (12, .invokespecial 20, 3), (15, .astore_n 2, 1), (16, .iconst 1, 1), (17, .newarray .long, 2), (19, .astore_n 3, 1), (20, .iconst 0, 1), (21, .istore 4, 2), (23, .iload 4, 2), (25, .aload_n 0, 1), (26, .arraylength, 1), (27, .bipush 6, 2), (29, .isub, 1), (30, .if_icmp .gt 1275, 3), (33, .aload_n 0, 1), (34, .iload 4, 2), (36, .iaload, 1), (37, .bipush 63, 2), (39, .iand, 1), (40, .tableswitch 1259 0 34 #[156, 229, 254, 279, 316, 341, 378, 403, 452, 489, 557, 594, 631, 668, 693, 718, 743, 756, 781, 806, 831, 856, 910, 923, 972, 1021, 1034, 1047, 1072, 1109, 1134, 1195, 1208, 1221, 1234], 156), (196, .aload_n 1, 1), (197, .aload_n 0, 1), (198, .iload 4, 2), (200, .iconst 1, 1), (201, .iadd, 1), (202, .iaload, 1), (203, .aload_n 0, 1), (204, .iload 4, 2), (206, .iconst 2, 1), (207, .iadd, 1), (208, .iaload, 1), (209, .aload_n 0, 1), (210, .iload 4, 2), (212, .iconst 3, 1), (213, .iadd, 1), (214, .iaload, 1), (215, .aload_n 0, 1), (216, .iload 4, 2), (218, .iconst 4, 1), (219, .iadd, 1), (220, .iaload, 1), (221, .aload_n 0, 1), (222, .iload 4, 2), (224, .iconst 5, 1), (225, .iadd, 1), (226, .iaload, 1), (227, .invokevirtual 21, 3), (230, .aload_n 2, 1), (231, .aload_n 0, 1), (232, .iload 4, 2), (234, .iconst 1, 1), (235, .iadd, 1), (236, .iaload, 1), (237, .aload_n 0, 1), (238, .iload 4, 2)]
set_option maxRecDepth 20000 in
theorem DL_law0 : (eL_law0.all fun q => decide (decode cL_law q.1 = .ok q.2)) = true := by decide +kernel
abbrev eL_law1 : List (Nat × Instr × Nat) := [(240, .iconst 2, 1), (241, .iadd, 1), (242, .iaload, 1), (243, .aload_n 0, 1), (244, .iload 4, 2), (246, .iconst 3, 1), (247, .iadd, 1), (248, .iaload, 1), (249, .aload_n 0, 1), (250, .iload 4, 2), (252, .iconst 4, 1), (253, .iadd, 1), (254, .iaload, 1), (255, .aload_n 0, 1), (256, .iload 4, 2), (258, .iconst 5, 1), (259, .iadd, 1), (260, .iaload, 1), (261, .invokevirtual 25, 3), (264, .if_icmp .eq 1035, 3), (267, .iconst 0, 1), (268, .ireturn, 1), (269, .aload_n 1, 1), (270, .aload_n 0, 1), (271, .iload 4, 2), (273, .iconst 1, 1), (274, .iadd, 1), (275, .iaload, 1), (276, .invokevirtual 26, 3), (279, .aload_n 2, 1), (280, .aload_n 0, 1), (281, .iload 4, 2), (283, .iconst 1, 1), (284, .iadd, 1), (285, .iaload, 1), (286, .invokevirtual 30, 3), (289, .if_icmp .eq 1010, 3), (292, .iconst 0, 1), (293, .ireturn, 1), (294, .aload_n 1, 1), (295, .aload_n 0, 1), (296, .iload 4, 2), (298, .iconst 1, 1), (299, .iadd, 1), (300, .iaload, 1), (301, .invokevirtual 31, 3), (304, .aload_n 2, 1), (305, .aload_n 0, 1), (306, .iload 4, 2), (308, .iconst 1, 1), (309, .iadd, 1), (310, .iaload, 1), (311, .invokevirtual 34, 3), (314, .if_icmp .eq 985, 3), (317, .iconst 0, 1), (318, .ireturn, 1), (319, .aload_n 1, 1), (320, .aload_n 0, 1), (321, .iload 4, 2), (323, .iconst 1, 1)]
set_option maxRecDepth 20000 in
theorem DL_law1 : (eL_law1.all fun q => decide (decode cL_law q.1 = .ok q.2)) = true := by decide +kernel
abbrev eL_law2 : List (Nat × Instr × Nat) := [(324, .iadd, 1), (325, .iaload, 1), (326, .aload_n 0, 1), (327, .iload 4, 2), (329, .iconst 2, 1), (330, .iadd, 1), (331, .iaload, 1), (332, .invokevirtual 35, 3), (335, .aload_n 2, 1), (336, .aload_n 0, 1), (337, .iload 4, 2), (339, .iconst 1, 1), (340, .iadd, 1), (341, .iaload, 1), (342, .aload_n 0, 1), (343, .iload 4, 2), (345, .iconst 2, 1), (346, .iadd, 1), (347, .iaload, 1), (348, .invokevirtual 38, 3), (351, .if_icmp .eq 948, 3), (354, .iconst 0, 1), (355, .ireturn, 1), (356, .aload_n 1, 1), (357, .aload_n 0, 1), (358, .iload 4, 2), (360, .iconst 1, 1), (361, .iadd, 1), (362, .iaload, 1), (363, .invokevirtual 39, 3), (366, .aload_n 2, 1), (367, .aload_n 0, 1), (368, .iload 4, 2), (370, .iconst 1, 1), (371, .iadd, 1), (372, .iaload, 1), (373, .invokevirtual 42, 3), (376, .if_icmp .eq 923, 3), (379, .iconst 0, 1), (380, .ireturn, 1), (381, .aload_n 1, 1), (382, .aload_n 0, 1), (383, .iload 4, 2), (385, .iconst 1, 1), (386, .iadd, 1), (387, .iaload, 1), (388, .aload_n 0, 1), (389, .iload 4, 2), (391, .iconst 2, 1), (392, .iadd, 1), (393, .iaload, 1), (394, .invokevirtual 43, 3), (397, .aload_n 2, 1), (398, .aload_n 0, 1), (399, .iload 4, 2), (401, .iconst 1, 1), (402, .iadd, 1), (403, .iaload, 1), (404, .aload_n 0, 1), (405, .iload 4, 2)]
set_option maxRecDepth 20000 in
theorem DL_law2 : (eL_law2.all fun q => decide (decode cL_law q.1 = .ok q.2)) = true := by decide +kernel
abbrev eL_law3 : List (Nat × Instr × Nat) := [(407, .iconst 2, 1), (408, .iadd, 1), (409, .iaload, 1), (410, .invokevirtual 46, 3), (413, .if_icmp .eq 886, 3), (416, .iconst 0, 1), (417, .ireturn, 1), (418, .aload_n 1, 1), (419, .aload_n 0, 1), (420, .iload 4, 2), (422, .iconst 1, 1), (423, .iadd, 1), (424, .iaload, 1), (425, .invokevirtual 47, 3), (428, .aload_n 2, 1), (429, .aload_n 0, 1), (430, .iload 4, 2), (432, .iconst 1, 1), (433, .iadd, 1), (434, .iaload, 1), (435, .invokevirtual 50, 3), (438, .if_icmp .eq 861, 3), (441, .iconst 0, 1), (442, .ireturn, 1), (443, .aload_n 1, 1), (444, .aload_n 0, 1), (445, .iload 4, 2), (447, .iconst 1, 1), (448, .iadd, 1), (449, .iaload, 1), (450, .aload_n 0, 1), (451, .iload 4, 2), (453, .iconst 2, 1), (454, .iadd, 1), (455, .iaload, 1), (456, .aload_n 0, 1), (457, .iload 4, 2), (459, .iconst 3, 1), (460, .iadd, 1), (461, .iaload, 1), (462, .invokevirtual 51, 3), (465, .aload_n 2, 1), (466, .aload_n 0, 1), (467, .iload 4, 2), (469, .iconst 1, 1), (470, .iadd, 1), (471, .iaload, 1), (472, .aload_n 0, 1), (473, .iload 4, 2), (475, .iconst 2, 1), (476, .iadd, 1), (477, .iaload, 1), (478, .aload_n 0, 1), (479, .iload 4, 2), (481, .iconst 3, 1), (482, .iadd, 1), (483, .iaload, 1), (484, .invokevirtual 55, 3), (487, .if_icmp .eq 812, 3), (490, .iconst 0, 1)]
set_option maxRecDepth 20000 in
theorem DL_law3 : (eL_law3.all fun q => decide (decode cL_law q.1 = .ok q.2)) = true := by decide +kernel
abbrev eL_law4 : List (Nat × Instr × Nat) := [(491, .ireturn, 1), (492, .aload_n 1, 1), (493, .aload_n 0, 1), (494, .iload 4, 2), (496, .iconst 1, 1), (497, .iadd, 1), (498, .iaload, 1), (499, .aload_n 0, 1), (500, .iload 4, 2), (502, .iconst 2, 1), (503, .iadd, 1), (504, .iaload, 1), (505, .invokevirtual 56, 3), (508, .aload_n 2, 1), (509, .aload_n 0, 1), (510, .iload 4, 2), (512, .iconst 1, 1), (513, .iadd, 1), (514, .iaload, 1), (515, .aload_n 0, 1), (516, .iload 4, 2), (518, .iconst 2, 1), (519, .iadd, 1), (520, .iaload, 1), (521, .invokevirtual 59, 3), (524, .if_icmp .eq 775, 3), (527, .iconst 0, 1), (528, .ireturn, 1), (529, .aload_n 1, 1), (530, .aload_n 0, 1), (531, .iload 4, 2), (533, .iconst 1, 1), (534, .iadd, 1), (535, .iaload, 1), (536, .aload_n 0, 1), (537, .iload 4, 2), (539, .iconst 2, 1), (540, .iadd, 1), (541, .iaload, 1), (542, .aload_n 3, 1), (543, .invokestatic 60, 3), (546, .istore 5, 2), (548, .aload_n 2, 1), (549, .aload_n 0, 1), (550, .iload 4, 2), (552, .iconst 1, 1), (553, .iadd, 1), (554, .iaload, 1), (555, .aload_n 0, 1), (556, .iload 4, 2), (558, .iconst 2, 1), (559, .iadd, 1), (560, .iaload, 1), (561, .invokevirtual 65, 3), (564, .istore 6, 2), (566, .aload_n 2, 1), (567, .invokevirtual 66, 3), (570, .iload 5, 2), (572, .if_icmp .eq 5, 3), (575, .iconst 0, 1)]
set_option maxRecDepth 20000 in
theorem DL_law4 : (eL_law4.all fun q => decide (decode cL_law q.1 = .ok q.2)) = true := by decide +kernel
abbrev eL_law5 : List (Nat × Instr × Nat) := [(576, .ireturn, 1), (577, .iload 5, 2), (579, .ifCond .ne 15, 3), (582, .aload_n 3, 1), (583, .iconst 0, 1), (584, .laload, 1), (585, .iload 6, 2), (587, .i2l, 1), (588, .lcmp, 1), (589, .ifCond .eq 5, 3), (592, .iconst 0, 1), (593, .ireturn, 1), (594, .goto 705, 3), (597, .aload_n 1, 1), (598, .aload_n 0, 1), (599, .iload 4, 2), (601, .iconst 1, 1), (602, .iadd, 1), (603, .iaload, 1), (604, .aload_n 0, 1), (605, .iload 4, 2), (607, .iconst 2, 1), (608, .iadd, 1), (609, .iaload, 1), (610, .invokevirtual 70, 3), (613, .aload_n 2, 1), (614, .aload_n 0, 1), (615, .iload 4, 2), (617, .iconst 1, 1), (618, .iadd, 1), (619, .iaload, 1), (620, .aload_n 0, 1), (621, .iload 4, 2), (623, .iconst 2, 1), (624, .iadd, 1), (625, .iaload, 1), (626, .invokevirtual 73, 3), (629, .if_icmp .eq 670, 3), (632, .iconst 0, 1), (633, .ireturn, 1), (634, .aload_n 1, 1), (635, .aload_n 0, 1), (636, .iload 4, 2), (638, .iconst 1, 1), (639, .iadd, 1), (640, .iaload, 1), (641, .aload_n 0, 1), (642, .iload 4, 2), (644, .iconst 2, 1), (645, .iadd, 1), (646, .iaload, 1), (647, .invokevirtual 74, 3), (650, .aload_n 2, 1), (651, .aload_n 0, 1), (652, .iload 4, 2), (654, .iconst 1, 1), (655, .iadd, 1), (656, .iaload, 1), (657, .aload_n 0, 1), (658, .iload 4, 2)]
set_option maxRecDepth 20000 in
theorem DL_law5 : (eL_law5.all fun q => decide (decode cL_law q.1 = .ok q.2)) = true := by decide +kernel
abbrev eL_law6 : List (Nat × Instr × Nat) := [(660, .iconst 2, 1), (661, .iadd, 1), (662, .iaload, 1), (663, .invokevirtual 77, 3), (666, .if_icmp .eq 633, 3), (669, .iconst 0, 1), (670, .ireturn, 1), (671, .aload_n 1, 1), (672, .aload_n 0, 1), (673, .iload 4, 2), (675, .iconst 1, 1), (676, .iadd, 1), (677, .iaload, 1), (678, .aload_n 0, 1), (679, .iload 4, 2), (681, .iconst 2, 1), (682, .iadd, 1), (683, .iaload, 1), (684, .invokevirtual 78, 3), (687, .aload_n 2, 1), (688, .aload_n 0, 1), (689, .iload 4, 2), (691, .iconst 1, 1), (692, .iadd, 1), (693, .iaload, 1), (694, .aload_n 0, 1), (695, .iload 4, 2), (697, .iconst 2, 1), (698, .iadd, 1), (699, .iaload, 1), (700, .invokevirtual 81, 3), (703, .if_icmp .eq 596, 3), (706, .iconst 0, 1), (707, .ireturn, 1), (708, .aload_n 1, 1), (709, .aload_n 0, 1), (710, .iload 4, 2), (712, .iconst 1, 1), (713, .iadd, 1), (714, .iaload, 1), (715, .invokevirtual 82, 3), (718, .aload_n 2, 1), (719, .aload_n 0, 1), (720, .iload 4, 2), (722, .iconst 1, 1), (723, .iadd, 1), (724, .iaload, 1), (725, .invokevirtual 85, 3), (728, .if_icmp .eq 571, 3), (731, .iconst 0, 1), (732, .ireturn, 1), (733, .aload_n 1, 1), (734, .aload_n 0, 1), (735, .iload 4, 2), (737, .iconst 1, 1), (738, .iadd, 1), (739, .iaload, 1), (740, .invokevirtual 86, 3), (743, .aload_n 2, 1), (744, .aload_n 0, 1)]
set_option maxRecDepth 20000 in
theorem DL_law6 : (eL_law6.all fun q => decide (decode cL_law q.1 = .ok q.2)) = true := by decide +kernel
abbrev eL_law7 : List (Nat × Instr × Nat) := [(745, .iload 4, 2), (747, .iconst 1, 1), (748, .iadd, 1), (749, .iaload, 1), (750, .invokevirtual 89, 3), (753, .if_icmp .eq 546, 3), (756, .iconst 0, 1), (757, .ireturn, 1), (758, .aload_n 1, 1), (759, .aload_n 0, 1), (760, .iload 4, 2), (762, .iconst 1, 1), (763, .iadd, 1), (764, .iaload, 1), (765, .invokevirtual 90, 3), (768, .aload_n 2, 1), (769, .aload_n 0, 1), (770, .iload 4, 2), (772, .iconst 1, 1), (773, .iadd, 1), (774, .iaload, 1), (775, .invokevirtual 93, 3), (778, .if_icmp .eq 521, 3), (781, .iconst 0, 1), (782, .ireturn, 1), (783, .aload_n 1, 1), (784, .invokevirtual 94, 3), (787, .aload_n 2, 1), (788, .invokevirtual 97, 3), (791, .if_icmp .eq 508, 3), (794, .iconst 0, 1), (795, .ireturn, 1), (796, .aload_n 1, 1), (797, .aload_n 0, 1), (798, .iload 4, 2), (800, .iconst 1, 1), (801, .iadd, 1), (802, .iaload, 1), (803, .invokevirtual 98, 3), (806, .aload_n 2, 1), (807, .aload_n 0, 1), (808, .iload 4, 2), (810, .iconst 1, 1), (811, .iadd, 1), (812, .iaload, 1), (813, .invokevirtual 101, 3), (816, .if_icmp .eq 483, 3), (819, .iconst 0, 1), (820, .ireturn, 1), (821, .aload_n 1, 1), (822, .aload_n 0, 1), (823, .iload 4, 2), (825, .iconst 1, 1), (826, .iadd, 1), (827, .iaload, 1), (828, .invokevirtual 102, 3), (831, .aload_n 2, 1), (832, .aload_n 0, 1), (833, .iload 4, 2), (835, .iconst 1, 1)]
set_option maxRecDepth 20000 in
theorem DL_law7 : (eL_law7.all fun q => decide (decode cL_law q.1 = .ok q.2)) = true := by decide +kernel
abbrev eL_law8 : List (Nat × Instr × Nat) := [(836, .iadd, 1), (837, .iaload, 1), (838, .invokevirtual 105, 3), (841, .if_icmp .eq 458, 3), (844, .iconst 0, 1), (845, .ireturn, 1), (846, .aload_n 1, 1), (847, .aload_n 0, 1), (848, .iload 4, 2), (850, .iconst 1, 1), (851, .iadd, 1), (852, .iaload, 1), (853, .invokevirtual 106, 3), (856, .aload_n 2, 1), (857, .aload_n 0, 1), (858, .iload 4, 2), (860, .iconst 1, 1), (861, .iadd, 1), (862, .iaload, 1), (863, .invokevirtual 109, 3), (866, .if_icmp .eq 433, 3), (869, .iconst 0, 1), (870, .ireturn, 1), (871, .aload_n 1, 1), (872, .aload_n 0, 1), (873, .iload 4, 2), (875, .iconst 1, 1), (876, .iadd, 1), (877, .iaload, 1), (878, .invokevirtual 110, 3), (881, .aload_n 2, 1), (882, .aload_n 0, 1), (883, .iload 4, 2), (885, .iconst 1, 1), (886, .iadd, 1), (887, .iaload, 1), (888, .invokevirtual 113, 3), (891, .if_icmp .eq 408, 3), (894, .iconst 0, 1), (895, .ireturn, 1), (896, .aload_n 1, 1), (897, .aload_n 0, 1), (898, .iload 4, 2), (900, .iconst 1, 1), (901, .iadd, 1), (902, .iaload, 1), (903, .aload_n 0, 1), (904, .iload 4, 2), (906, .iconst 2, 1), (907, .iadd, 1), (908, .iaload, 1), (909, .ifCond .eq 7, 3), (912, .iconst 1, 1), (913, .goto 4, 3), (916, .iconst 0, 1), (917, .invokevirtual 114, 3), (920, .aload_n 2, 1), (921, .aload_n 0, 1), (922, .iload 4, 2), (924, .iconst 1, 1)]
set_option maxRecDepth 20000 in
theorem DL_law8 : (eL_law8.all fun q => decide (decode cL_law q.1 = .ok q.2)) = true := by decide +kernel
abbrev eL_law9 : List (Nat × Instr × Nat) := [(925, .iadd, 1), (926, .iaload, 1), (927, .aload_n 0, 1), (928, .iload 4, 2), (930, .iconst 2, 1), (931, .iadd, 1), (932, .iaload, 1), (933, .ifCond .eq 7, 3), (936, .iconst 1, 1), (937, .goto 4, 3), (940, .iconst 0, 1), (941, .invokevirtual 118, 3), (944, .lcmp, 1), (945, .ifCond .eq 354, 3), (948, .iconst 0, 1), (949, .ireturn, 1), (950, .aload_n 1, 1), (951, .invokevirtual 119, 3), (954, .aload_n 2, 1), (955, .invokevirtual 122, 3), (958, .if_icmp .eq 341, 3), (961, .iconst 0, 1), (962, .ireturn, 1), (963, .aload_n 1, 1), (964, .aload_n 0, 1), (965, .iload 4, 2), (967, .iconst 1, 1), (968, .iadd, 1), (969, .iaload, 1), (970, .aload_n 0, 1), (971, .iload 4, 2), (973, .iconst 2, 1), (974, .iadd, 1), (975, .iaload, 1), (976, .aload_n 0, 1), (977, .iload 4, 2), (979, .iconst 3, 1), (980, .iadd, 1), (981, .iaload, 1), (982, .invokevirtual 123, 3), (985, .aload_n 2, 1), (986, .aload_n 0, 1), (987, .iload 4, 2), (989, .iconst 1, 1), (990, .iadd, 1), (991, .iaload, 1), (992, .aload_n 0, 1), (993, .iload 4, 2), (995, .iconst 2, 1), (996, .iadd, 1), (997, .iaload, 1), (998, .aload_n 0, 1), (999, .iload 4, 2), (1001, .iconst 3, 1), (1002, .iadd, 1), (1003, .iaload, 1), (1004, .invokevirtual 127, 3), (1007, .if_icmp .eq 292, 3), (1010, .iconst 0, 1), (1011, .ireturn, 1)]
set_option maxRecDepth 20000 in
theorem DL_law9 : (eL_law9.all fun q => decide (decode cL_law q.1 = .ok q.2)) = true := by decide +kernel
abbrev eL_law10 : List (Nat × Instr × Nat) := [(1012, .aload_n 1, 1), (1013, .aload_n 0, 1), (1014, .iload 4, 2), (1016, .iconst 1, 1), (1017, .iadd, 1), (1018, .iaload, 1), (1019, .aload_n 0, 1), (1020, .iload 4, 2), (1022, .iconst 2, 1), (1023, .iadd, 1), (1024, .iaload, 1), (1025, .aload_n 0, 1), (1026, .iload 4, 2), (1028, .iconst 3, 1), (1029, .iadd, 1), (1030, .iaload, 1), (1031, .invokevirtual 128, 3), (1034, .aload_n 2, 1), (1035, .aload_n 0, 1), (1036, .iload 4, 2), (1038, .iconst 1, 1), (1039, .iadd, 1), (1040, .iaload, 1), (1041, .aload_n 0, 1), (1042, .iload 4, 2), (1044, .iconst 2, 1), (1045, .iadd, 1), (1046, .iaload, 1), (1047, .aload_n 0, 1), (1048, .iload 4, 2), (1050, .iconst 3, 1), (1051, .iadd, 1), (1052, .iaload, 1), (1053, .invokevirtual 131, 3), (1056, .if_icmp .eq 243, 3), (1059, .iconst 0, 1), (1060, .ireturn, 1), (1061, .aload_n 1, 1), (1062, .invokevirtual 132, 3), (1065, .aload_n 2, 1), (1066, .invokevirtual 135, 3), (1069, .if_icmp .eq 230, 3), (1072, .iconst 0, 1), (1073, .ireturn, 1), (1074, .aload_n 1, 1), (1075, .invokevirtual 136, 3), (1078, .aload_n 2, 1), (1079, .invokevirtual 139, 3), (1082, .if_icmp .eq 217, 3), (1085, .iconst 0, 1), (1086, .ireturn, 1), (1087, .aload_n 1, 1), (1088, .aload_n 0, 1), (1089, .iload 4, 2), (1091, .iconst 1, 1), (1092, .iadd, 1), (1093, .iaload, 1), (1094, .invokevirtual 140, 3), (1097, .aload_n 2, 1), (1098, .aload_n 0, 1)]
set_option maxRecDepth 20000 in
theorem DL_law10 : (eL_law10.all fun q => decide (decode cL_law q.1 = .ok q.2)) = true := by decide +kernel
abbrev eL_law11 : List (Nat × Instr × Nat) := [(1099, .iload 4, 2), (1101, .iconst 1, 1), (1102, .iadd, 1), (1103, .iaload, 1), (1104, .invokevirtual 143, 3), (1107, .if_icmp .eq 192, 3), (1110, .iconst 0, 1), (1111, .ireturn, 1), (1112, .aload_n 1, 1), (1113, .aload_n 0, 1), (1114, .iload 4, 2), (1116, .iconst 1, 1), (1117, .iadd, 1), (1118, .iaload, 1), (1119, .aload_n 0, 1), (1120, .iload 4, 2), (1122, .iconst 2, 1), (1123, .iadd, 1), (1124, .iaload, 1), (1125, .invokevirtual 144, 3), (1128, .aload_n 2, 1), (1129, .aload_n 0, 1), (1130, .iload 4, 2), (1132, .iconst 1, 1), (1133, .iadd, 1), (1134, .iaload, 1), (1135, .aload_n 0, 1), (1136, .iload 4, 2), (1138, .iconst 2, 1), (1139, .iadd, 1), (1140, .iaload, 1), (1141, .invokevirtual 147, 3), (1144, .if_icmp .eq 155, 3), (1147, .iconst 0, 1), (1148, .ireturn, 1), (1149, .aload_n 1, 1), (1150, .aload_n 0, 1), (1151, .iload 4, 2), (1153, .iconst 1, 1), (1154, .iadd, 1), (1155, .iaload, 1), (1156, .invokevirtual 148, 3), (1159, .aload_n 2, 1), (1160, .aload_n 0, 1), (1161, .iload 4, 2), (1163, .iconst 1, 1), (1164, .iadd, 1), (1165, .iaload, 1), (1166, .invokevirtual 151, 3), (1169, .if_icmp .eq 130, 3), (1172, .iconst 0, 1), (1173, .ireturn, 1), (1174, .aload_n 1, 1), (1175, .aload_n 0, 1), (1176, .iload 4, 2), (1178, .iconst 1, 1), (1179, .iadd, 1), (1180, .iaload, 1), (1181, .aload_n 0, 1), (1182, .iload 4, 2)]
set_option maxRecDepth 20000 in
theorem DL_law11 : (eL_law11.all fun q => decide (decode cL_law q.1 = .ok q.2)) = true := by decide +kernel
abbrev eL_law12 : List (Nat × Instr × Nat) := [(1184, .iconst 2, 1), (1185, .iadd, 1), (1186, .iaload, 1), (1187, .aload_n 0, 1), (1188, .iload 4, 2), (1190, .iconst 3, 1), (1191, .iadd, 1), (1192, .iaload, 1), (1193, .aload_n 0, 1), (1194, .iload 4, 2), (1196, .iconst 4, 1), (1197, .iadd, 1), (1198, .iaload, 1), (1199, .invokevirtual 152, 3), (1202, .aload_n 2, 1), (1203, .aload_n 0, 1), (1204, .iload 4, 2), (1206, .iconst 1, 1), (1207, .iadd, 1), (1208, .iaload, 1), (1209, .aload_n 0, 1), (1210, .iload 4, 2), (1212, .iconst 2, 1), (1213, .iadd, 1), (1214, .iaload, 1), (1215, .aload_n 0, 1), (1216, .iload 4, 2), (1218, .iconst 3, 1), (1219, .iadd, 1), (1220, .iaload, 1), (1221, .aload_n 0, 1), (1222, .iload 4, 2), (1224, .iconst 4, 1), (1225, .iadd, 1), (1226, .iaload, 1), (1227, .invokevirtual 156, 3), (1230, .if_icmp .eq 69, 3), (1233, .iconst 0, 1), (1234, .ireturn, 1), (1235, .aload_n 1, 1), (1236, .invokevirtual 157, 3), (1239, .aload_n 2, 1), (1240, .invokevirtual 160, 3), (1243, .if_icmp .eq 56, 3), (1246, .iconst 0, 1), (1247, .ireturn, 1), (1248, .aload_n 1, 1), (1249, .invokevirtual 161, 3), (1252, .aload_n 2, 1), (1253, .invokevirtual 164, 3), (1256, .if_icmp .eq 43, 3), (1259, .iconst 0, 1), (1260, .ireturn, 1), (1261, .aload_n 1, 1), (1262, .invokevirtual 165, 3), (1265, .aload_n 2, 1), (1266, .invokevirtual 168, 3), (1269, .if_icmp .eq 30, 3), (1272, .iconst 0, 1), (1273, .ireturn, 1)]
set_option maxRecDepth 20000 in
theorem DL_law12 : (eL_law12.all fun q => decide (decode cL_law q.1 = .ok q.2)) = true := by decide +kernel
abbrev eL_law13 : List (Nat × Instr × Nat) := [(1274, .aload_n 1, 1), (1275, .aload_n 0, 1), (1276, .iload 4, 2), (1278, .iconst 1, 1), (1279, .iadd, 1), (1280, .iaload, 1), (1281, .invokevirtual 169, 3), (1284, .aload_n 2, 1), (1285, .aload_n 0, 1), (1286, .iload 4, 2), (1288, .iconst 1, 1), (1289, .iadd, 1), (1290, .iaload, 1), (1291, .invokevirtual 172, 3), (1294, .if_icmp .eq 5, 3), (1297, .iconst 0, 1), (1298, .ireturn, 1), (1299, .iinc 4 6, 3), (1302, .goto (-1279), 3), (1305, .iconst 1, 1), (1306, .ireturn, 1)]
set_option maxRecDepth 20000 in
theorem DL_law13 : (eL_law13.all fun q => decide (decode cL_law q.1 = .ok q.2)) = true := by decide +kernel
abbrev LWd (E EF EM : Ev) (ob : Nat) (fo : Nat → Int64) (mF mM : Mm) : va_W := ([(ob, .inl (E.2.1 3, 1, .inr (.inl fo)))] ++ wd EF SX7 mF) ++ wd EM SX8 mM
set_option maxHeartbeats 1000000 in
theorem law_0 {G : Gt} {l : Launch} {E EF EM : Ev} {cs : Nat × Nat} {b L ob : Nat} {xs : Nat → Int32} {fo : Nat → Int64} {x4 : Int32} {mF mM : Mm} (hF1 : EF.1 = E.1) (hF2 : EF.2.1 = E.2.1) (hM1 : EM.1 = E.1) (hM2 : EM.2.1 = E.2.1) (C : Cx G E cL_law 7 RL (some .boolean) 15 564) (hX : Sx G b L xs) (hrm : Rm G cs.1 cs.2) (hi1 : vp_in (x4 + 1) L) (hi2 : vp_in (x4 + 2) L) (hi3 : vp_in (x4 + 3) L) (hi4 : vp_in (x4 + 4) L) (hi5 : vp_in (x4 + 5) L) {v : Int32} {mF1 : Mm} {mM1 : Mm} (hF : fX7_feed SX7 mF 0 (xs (x4 + 1).toNatClampNeg) (xs (x4 + 2).toNatClampNeg) (xs (x4 + 3).toNatClampNeg) (xs (x4 + 4).toNatClampNeg) (xs (x4 + 5).toNatClampNeg) = some (v, mF1)) (hM : fX8_feed SX8 mM 0 (xs (x4 + 1).toNatClampNeg) (xs (x4 + 2).toNatClampNeg) (xs (x4 + 3).toNatClampNeg) (xs (x4 + 4).toNatClampNeg) (xs (x4 + 5).toNatClampNeg) = some (v, mM1)) (k : WG G l E cs (LWd E EF EM ob fo mF1 mM1) 1299 [(0, .ref b), (1, .ref (EF.2.2 0)), (2, .ref (EM.2.2 0)), (3, .ref ob), (4, .int x4)] []) : WG G l E cs (LWd E EF EM ob fo mF mM) 196 [(0, .ref b), (1, .ref (EF.2.2 0)), (2, .ref (EM.2.2 0)), (3, .ref ob), (4, .int x4)] [] := by
  refine y_aload_n C (dq DL_law0 25 rfl) rfl 1 rfl ?_
  refine y_aload_n C (dq DL_law0 26 rfl) rfl 0 rfl ?_
  refine y_iload C (dq DL_law0 27 rfl) 4 rfl ?_
  refine y_pc 200 rfl ?_
  refine y_iconst (v := 1) C (dq DL_law0 28 rfl) (by decide) ?_
  refine y_iadd C (dq DL_law0 29 rfl) ?_
  refine y_sld C (dq DL_law0 30 rfl) hX hi1 ?_
  refine y_aload_n C (dq DL_law0 31 rfl) rfl 0 rfl ?_
  refine y_pc 204 rfl ?_
  refine y_iload C (dq DL_law0 32 rfl) 4 rfl ?_
  refine y_iconst (v := 2) C (dq DL_law0 33 rfl) (by decide) ?_
  refine y_iadd C (dq DL_law0 34 rfl) ?_
  refine y_sld C (dq DL_law0 35 rfl) hX hi2 ?_
  refine y_pc 209 rfl ?_
  refine y_aload_n C (dq DL_law0 36 rfl) rfl 0 rfl ?_
  refine y_iload C (dq DL_law0 37 rfl) 4 rfl ?_
  refine y_iconst (v := 3) C (dq DL_law0 38 rfl) (by decide) ?_
  refine y_iadd C (dq DL_law0 39 rfl) ?_
  refine y_pc 214 rfl ?_
  refine y_sld C (dq DL_law0 40 rfl) hX hi3 ?_
  refine y_aload_n C (dq DL_law0 41 rfl) rfl 0 rfl ?_
  refine y_iload C (dq DL_law0 42 rfl) 4 rfl ?_
  refine y_iconst (v := 4) C (dq DL_law0 43 rfl) (by decide) ?_
  refine y_pc 219 rfl ?_
  refine y_iadd C (dq DL_law0 44 rfl) ?_
  refine y_sld C (dq DL_law0 45 rfl) hX hi4 ?_
  refine y_aload_n C (dq DL_law0 46 rfl) rfl 0 rfl ?_
  refine y_iload C (dq DL_law0 47 rfl) 4 rfl ?_
  refine y_pc 224 rfl ?_
  refine y_iconst (v := 5) C (dq DL_law0 48 rfl) (by decide) ?_
  refine y_iadd C (dq DL_law0 49 rfl) ?_
  refine y_sld C (dq DL_law0 50 rfl) hX hi5 ?_
  refine l_callF (n := 5) (As := [.int (xs (x4 + 1).toNatClampNeg), .int (xs (x4 + 2).toNatClampNeg), .int (xs (x4 + 3).toNatClampNeg), .int (xs (x4 + 4).toNatClampNeg), .int (xs (x4 + 5).toNatClampNeg)]) (rest := []) hF1 hF2 C (mX7_feed hF) (T := TX7) (N := 12) rfl (gmem 279 (by decide +kernel) rfl) (gmem 280 (by decide +kernel) rfl) (gmem 281 (by decide +kernel) rfl) (gmem 1 (by decide +kernel) rfl) (gmem 282 (by decide +kernel) rfl) (by decide +kernel) rfl (by decide) (by decide) (Nat.le_of_ble_eq_true rfl) hrm (dq DL_law0 51 rfl) rfl rfl ?_
  refine y_pc 230 rfl ?_
  refine y_aload_n C (dq DL_law0 52 rfl) rfl 2 rfl ?_
  refine y_aload_n C (dq DL_law0 53 rfl) rfl 0 rfl ?_
  refine y_iload C (dq DL_law0 54 rfl) 4 rfl ?_
  refine y_iconst (v := 1) C (dq DL_law0 55 rfl) (by decide) ?_
  refine y_pc 235 rfl ?_
  refine y_iadd C (dq DL_law0 56 rfl) ?_
  refine y_sld C (dq DL_law0 57 rfl) hX hi1 ?_
  refine y_aload_n C (dq DL_law0 58 rfl) rfl 0 rfl ?_
  refine y_iload C (dq DL_law0 59 rfl) 4 rfl ?_
  refine y_pc 240 rfl ?_
  refine y_iconst (v := 2) C (dq DL_law1 0 rfl) (by decide) ?_
  refine y_iadd C (dq DL_law1 1 rfl) ?_
  refine y_sld C (dq DL_law1 2 rfl) hX hi2 ?_
  refine y_aload_n C (dq DL_law1 3 rfl) rfl 0 rfl ?_
  refine y_pc 244 rfl ?_
  refine y_iload C (dq DL_law1 4 rfl) 4 rfl ?_
  refine y_iconst (v := 3) C (dq DL_law1 5 rfl) (by decide) ?_
  refine y_iadd C (dq DL_law1 6 rfl) ?_
  refine y_sld C (dq DL_law1 7 rfl) hX hi3 ?_
  refine y_pc 249 rfl ?_
  refine y_aload_n C (dq DL_law1 8 rfl) rfl 0 rfl ?_
  refine y_iload C (dq DL_law1 9 rfl) 4 rfl ?_
  refine y_iconst (v := 4) C (dq DL_law1 10 rfl) (by decide) ?_
  refine y_iadd C (dq DL_law1 11 rfl) ?_
  refine y_pc 254 rfl ?_
  refine y_sld C (dq DL_law1 12 rfl) hX hi4 ?_
  refine y_aload_n C (dq DL_law1 13 rfl) rfl 0 rfl ?_
  refine y_iload C (dq DL_law1 14 rfl) 4 rfl ?_
  refine y_iconst (v := 5) C (dq DL_law1 15 rfl) (by decide) ?_
  refine y_pc 259 rfl ?_
  refine y_iadd C (dq DL_law1 16 rfl) ?_
  refine y_sld C (dq DL_law1 17 rfl) hX hi5 ?_
  refine l_callM (n := 5) (As := [.int (xs (x4 + 1).toNatClampNeg), .int (xs (x4 + 2).toNatClampNeg), .int (xs (x4 + 3).toNatClampNeg), .int (xs (x4 + 4).toNatClampNeg), .int (xs (x4 + 5).toNatClampNeg)]) (rest := [.int v]) hM1 hM2 C (mX8_feed hM) (T := TX8) (N := 49) rfl (gmem 1018 (by decide +kernel) rfl) (gmem 1019 (by decide +kernel) rfl) (gmem 1020 (by decide +kernel) rfl) (gmem 9 (by decide +kernel) rfl) (gmem 1021 (by decide +kernel) rfl) (by decide +kernel) rfl (by decide) (by decide) (Nat.le_of_ble_eq_true rfl) hrm (dq DL_law1 18 rfl) rfl rfl ?_
  exact y_icmp_eq (tgt := 1299) C (dq DL_law1 19 rfl) (by decide) (fun _ => y_pc 1299 rfl k) (fun hc => absurd rfl hc)
set_option maxHeartbeats 1000000 in
theorem law_2 {G : Gt} {l : Launch} {E EF EM : Ev} {cs : Nat × Nat} {b L ob : Nat} {xs : Nat → Int32} {fo : Nat → Int64} {x4 : Int32} {mF mM : Mm} (hF1 : EF.1 = E.1) (hF2 : EF.2.1 = E.2.1) (hM1 : EM.1 = E.1) (hM2 : EM.2.1 = E.2.1) (C : Cx G E cL_law 7 RL (some .boolean) 15 564) (hX : Sx G b L xs) (hrm : Rm G cs.1 cs.2) (hi1 : vp_in (x4 + 1) L) {v : Int32} {mM1 : Mm} (hF : fX7_fault SX7 mF 0 (xs (x4 + 1).toNatClampNeg) = some v) (hM : fX8_fault SX8 mM 0 (xs (x4 + 1).toNatClampNeg) = some (v, mM1)) (k : WG G l E cs (LWd E EF EM ob fo mF mM1) 1299 [(0, .ref b), (1, .ref (EF.2.2 0)), (2, .ref (EM.2.2 0)), (3, .ref ob), (4, .int x4)] []) : WG G l E cs (LWd E EF EM ob fo mF mM) 294 [(0, .ref b), (1, .ref (EF.2.2 0)), (2, .ref (EM.2.2 0)), (3, .ref ob), (4, .int x4)] [] := by
  refine y_aload_n C (dq DL_law1 39 rfl) rfl 1 rfl ?_
  refine y_aload_n C (dq DL_law1 40 rfl) rfl 0 rfl ?_
  refine y_iload C (dq DL_law1 41 rfl) 4 rfl ?_
  refine y_pc 298 rfl ?_
  refine y_iconst (v := 1) C (dq DL_law1 42 rfl) (by decide) ?_
  refine y_iadd C (dq DL_law1 43 rfl) ?_
  refine y_sld C (dq DL_law1 44 rfl) hX hi1 ?_
  refine l_callF (n := 1) (As := [.int (xs (x4 + 1).toNatClampNeg)]) (rest := []) hF1 hF2 C (mX7_fault hF) (T := TX7) (N := 12) rfl (gmem 412 (by decide +kernel) rfl) (gmem 413 (by decide +kernel) rfl) (gmem 414 (by decide +kernel) rfl) (gmem 1 (by decide +kernel) rfl) (gmem 415 (by decide +kernel) rfl) (by decide +kernel) rfl (by decide) (by decide) (Nat.le_of_ble_eq_true rfl) hrm (dq DL_law1 45 rfl) rfl rfl ?_
  refine y_pc 304 rfl ?_
  refine y_aload_n C (dq DL_law1 46 rfl) rfl 2 rfl ?_
  refine y_aload_n C (dq DL_law1 47 rfl) rfl 0 rfl ?_
  refine y_iload C (dq DL_law1 48 rfl) 4 rfl ?_
  refine y_iconst (v := 1) C (dq DL_law1 49 rfl) (by decide) ?_
  refine y_pc 309 rfl ?_
  refine y_iadd C (dq DL_law1 50 rfl) ?_
  refine y_sld C (dq DL_law1 51 rfl) hX hi1 ?_
  refine l_callM (n := 1) (As := [.int (xs (x4 + 1).toNatClampNeg)]) (rest := [.int v]) hM1 hM2 C (mX8_fault hM) (T := TX8) (N := 49) rfl (gmem 1161 (by decide +kernel) rfl) (gmem 1162 (by decide +kernel) rfl) (gmem 1163 (by decide +kernel) rfl) (gmem 9 (by decide +kernel) rfl) (gmem 1164 (by decide +kernel) rfl) (by decide +kernel) rfl (by decide) (by decide) (Nat.le_of_ble_eq_true rfl) hrm (dq DL_law1 52 rfl) rfl rfl ?_
  exact y_icmp_eq (tgt := 1299) C (dq DL_law1 53 rfl) (by decide) (fun _ => y_pc 1299 rfl k) (fun hc => absurd rfl hc)
set_option maxHeartbeats 1000000 in
theorem law_3 {G : Gt} {l : Launch} {E EF EM : Ev} {cs : Nat × Nat} {b L ob : Nat} {xs : Nat → Int32} {fo : Nat → Int64} {x4 : Int32} {mF mM : Mm} (hF1 : EF.1 = E.1) (hF2 : EF.2.1 = E.2.1) (hM1 : EM.1 = E.1) (hM2 : EM.2.1 = E.2.1) (C : Cx G E cL_law 7 RL (some .boolean) 15 564) (hX : Sx G b L xs) (hrm : Rm G cs.1 cs.2) (hi1 : vp_in (x4 + 1) L) (hi2 : vp_in (x4 + 2) L) {v : Int32} {mM1 : Mm} (hF : fX7_named SX7 mF 0 (xs (x4 + 1).toNatClampNeg) (xs (x4 + 2).toNatClampNeg) = some v) (hM : fX8_named SX8 mM 0 (xs (x4 + 1).toNatClampNeg) (xs (x4 + 2).toNatClampNeg) = some (v, mM1)) (k : WG G l E cs (LWd E EF EM ob fo mF mM1) 1299 [(0, .ref b), (1, .ref (EF.2.2 0)), (2, .ref (EM.2.2 0)), (3, .ref ob), (4, .int x4)] []) : WG G l E cs (LWd E EF EM ob fo mF mM) 319 [(0, .ref b), (1, .ref (EF.2.2 0)), (2, .ref (EM.2.2 0)), (3, .ref ob), (4, .int x4)] [] := by
  refine y_aload_n C (dq DL_law1 56 rfl) rfl 1 rfl ?_
  refine y_aload_n C (dq DL_law1 57 rfl) rfl 0 rfl ?_
  refine y_iload C (dq DL_law1 58 rfl) 4 rfl ?_
  refine y_pc 323 rfl ?_
  refine y_iconst (v := 1) C (dq DL_law1 59 rfl) (by decide) ?_
  refine y_iadd C (dq DL_law2 0 rfl) ?_
  refine y_sld C (dq DL_law2 1 rfl) hX hi1 ?_
  refine y_aload_n C (dq DL_law2 2 rfl) rfl 0 rfl ?_
  refine y_pc 327 rfl ?_
  refine y_iload C (dq DL_law2 3 rfl) 4 rfl ?_
  refine y_iconst (v := 2) C (dq DL_law2 4 rfl) (by decide) ?_
  refine y_iadd C (dq DL_law2 5 rfl) ?_
  refine y_sld C (dq DL_law2 6 rfl) hX hi2 ?_
  refine y_pc 332 rfl ?_
  refine l_callF (n := 2) (As := [.int (xs (x4 + 1).toNatClampNeg), .int (xs (x4 + 2).toNatClampNeg)]) (rest := []) hF1 hF2 C (mX7_named hF) (T := TX7) (N := 12) rfl (gmem 416 (by decide +kernel) rfl) (gmem 417 (by decide +kernel) rfl) (gmem 418 (by decide +kernel) rfl) (gmem 1 (by decide +kernel) rfl) (gmem 419 (by decide +kernel) rfl) (by decide +kernel) rfl (by decide) (by decide) (Nat.le_of_ble_eq_true rfl) hrm (dq DL_law2 7 rfl) rfl rfl ?_
  refine y_aload_n C (dq DL_law2 8 rfl) rfl 2 rfl ?_
  refine y_aload_n C (dq DL_law2 9 rfl) rfl 0 rfl ?_
  refine y_iload C (dq DL_law2 10 rfl) 4 rfl ?_
  refine y_pc 339 rfl ?_
  refine y_iconst (v := 1) C (dq DL_law2 11 rfl) (by decide) ?_
  refine y_iadd C (dq DL_law2 12 rfl) ?_
  refine y_sld C (dq DL_law2 13 rfl) hX hi1 ?_
  refine y_aload_n C (dq DL_law2 14 rfl) rfl 0 rfl ?_
  refine y_pc 343 rfl ?_
  refine y_iload C (dq DL_law2 15 rfl) 4 rfl ?_
  refine y_iconst (v := 2) C (dq DL_law2 16 rfl) (by decide) ?_
  refine y_iadd C (dq DL_law2 17 rfl) ?_
  refine y_sld C (dq DL_law2 18 rfl) hX hi2 ?_
  refine y_pc 348 rfl ?_
  refine l_callM (n := 2) (As := [.int (xs (x4 + 1).toNatClampNeg), .int (xs (x4 + 2).toNatClampNeg)]) (rest := [.int v]) hM1 hM2 C (mX8_named hM) (T := TX8) (N := 49) rfl (gmem 1165 (by decide +kernel) rfl) (gmem 1166 (by decide +kernel) rfl) (gmem 1167 (by decide +kernel) rfl) (gmem 9 (by decide +kernel) rfl) (gmem 1168 (by decide +kernel) rfl) (by decide +kernel) rfl (by decide) (by decide) (Nat.le_of_ble_eq_true rfl) hrm (dq DL_law2 19 rfl) rfl rfl ?_
  exact y_icmp_eq (tgt := 1299) C (dq DL_law2 20 rfl) (by decide) (fun _ => y_pc 1299 rfl k) (fun hc => absurd rfl hc)
set_option maxHeartbeats 1000000 in
theorem law_4 {G : Gt} {l : Launch} {E EF EM : Ev} {cs : Nat × Nat} {b L ob : Nat} {xs : Nat → Int32} {fo : Nat → Int64} {x4 : Int32} {mF mM : Mm} (hF1 : EF.1 = E.1) (hF2 : EF.2.1 = E.2.1) (hM1 : EM.1 = E.1) (hM2 : EM.2.1 = E.2.1) (C : Cx G E cL_law 7 RL (some .boolean) 15 564) (hX : Sx G b L xs) (hrm : Rm G cs.1 cs.2) (hi1 : vp_in (x4 + 1) L) {v : Int32} {mF1 : Mm} {mM1 : Mm} (hF : fX7_tick SX7 mF 0 (xs (x4 + 1).toNatClampNeg) = some (v, mF1)) (hM : fX8_tick SX8 mM 0 (xs (x4 + 1).toNatClampNeg) = some (v, mM1)) (k : WG G l E cs (LWd E EF EM ob fo mF1 mM1) 1299 [(0, .ref b), (1, .ref (EF.2.2 0)), (2, .ref (EM.2.2 0)), (3, .ref ob), (4, .int x4)] []) : WG G l E cs (LWd E EF EM ob fo mF mM) 356 [(0, .ref b), (1, .ref (EF.2.2 0)), (2, .ref (EM.2.2 0)), (3, .ref ob), (4, .int x4)] [] := by
  refine y_aload_n C (dq DL_law2 23 rfl) rfl 1 rfl ?_
  refine y_aload_n C (dq DL_law2 24 rfl) rfl 0 rfl ?_
  refine y_iload C (dq DL_law2 25 rfl) 4 rfl ?_
  refine y_pc 360 rfl ?_
  refine y_iconst (v := 1) C (dq DL_law2 26 rfl) (by decide) ?_
  refine y_iadd C (dq DL_law2 27 rfl) ?_
  refine y_sld C (dq DL_law2 28 rfl) hX hi1 ?_
  refine l_callF (n := 1) (As := [.int (xs (x4 + 1).toNatClampNeg)]) (rest := []) hF1 hF2 C (mX7_tick hF) (T := TX7) (N := 12) rfl (gmem 422 (by decide +kernel) rfl) (gmem 423 (by decide +kernel) rfl) (gmem 424 (by decide +kernel) rfl) (gmem 1 (by decide +kernel) rfl) (gmem 425 (by decide +kernel) rfl) (by decide +kernel) rfl (by decide) (by decide) (Nat.le_of_ble_eq_true rfl) hrm (dq DL_law2 29 rfl) rfl rfl ?_
  refine y_pc 366 rfl ?_
  refine y_aload_n C (dq DL_law2 30 rfl) rfl 2 rfl ?_
  refine y_aload_n C (dq DL_law2 31 rfl) rfl 0 rfl ?_
  refine y_iload C (dq DL_law2 32 rfl) 4 rfl ?_
  refine y_iconst (v := 1) C (dq DL_law2 33 rfl) (by decide) ?_
  refine y_pc 371 rfl ?_
  refine y_iadd C (dq DL_law2 34 rfl) ?_
  refine y_sld C (dq DL_law2 35 rfl) hX hi1 ?_
  refine l_callM (n := 1) (As := [.int (xs (x4 + 1).toNatClampNeg)]) (rest := [.int v]) hM1 hM2 C (mX8_tick hM) (T := TX8) (N := 49) rfl (gmem 1184 (by decide +kernel) rfl) (gmem 1185 (by decide +kernel) rfl) (gmem 1186 (by decide +kernel) rfl) (gmem 9 (by decide +kernel) rfl) (gmem 1187 (by decide +kernel) rfl) (by decide +kernel) rfl (by decide) (by decide) (Nat.le_of_ble_eq_true rfl) hrm (dq DL_law2 36 rfl) rfl rfl ?_
  exact y_icmp_eq (tgt := 1299) C (dq DL_law2 37 rfl) (by decide) (fun _ => y_pc 1299 rfl k) (fun hc => absurd rfl hc)
set_option maxHeartbeats 1000000 in
theorem law_5 {G : Gt} {l : Launch} {E EF EM : Ev} {cs : Nat × Nat} {b L ob : Nat} {xs : Nat → Int32} {fo : Nat → Int64} {x4 : Int32} {mF mM : Mm} (hF1 : EF.1 = E.1) (hF2 : EF.2.1 = E.2.1) (hM1 : EM.1 = E.1) (hM2 : EM.2.1 = E.2.1) (C : Cx G E cL_law 7 RL (some .boolean) 15 564) (hX : Sx G b L xs) (hrm : Rm G cs.1 cs.2) (hi1 : vp_in (x4 + 1) L) (hi2 : vp_in (x4 + 2) L) {v : Int32} {mF1 : Mm} {mM1 : Mm} (hF : fX7_rate SX7 mF 0 (xs (x4 + 1).toNatClampNeg) (xs (x4 + 2).toNatClampNeg) = some (v, mF1)) (hM : fX8_rate SX8 mM 0 (xs (x4 + 1).toNatClampNeg) (xs (x4 + 2).toNatClampNeg) = some (v, mM1)) (k : WG G l E cs (LWd E EF EM ob fo mF1 mM1) 1299 [(0, .ref b), (1, .ref (EF.2.2 0)), (2, .ref (EM.2.2 0)), (3, .ref ob), (4, .int x4)] []) : WG G l E cs (LWd E EF EM ob fo mF mM) 381 [(0, .ref b), (1, .ref (EF.2.2 0)), (2, .ref (EM.2.2 0)), (3, .ref ob), (4, .int x4)] [] := by
  refine y_aload_n C (dq DL_law2 40 rfl) rfl 1 rfl ?_
  refine y_aload_n C (dq DL_law2 41 rfl) rfl 0 rfl ?_
  refine y_iload C (dq DL_law2 42 rfl) 4 rfl ?_
  refine y_pc 385 rfl ?_
  refine y_iconst (v := 1) C (dq DL_law2 43 rfl) (by decide) ?_
  refine y_iadd C (dq DL_law2 44 rfl) ?_
  refine y_sld C (dq DL_law2 45 rfl) hX hi1 ?_
  refine y_aload_n C (dq DL_law2 46 rfl) rfl 0 rfl ?_
  refine y_pc 389 rfl ?_
  refine y_iload C (dq DL_law2 47 rfl) 4 rfl ?_
  refine y_iconst (v := 2) C (dq DL_law2 48 rfl) (by decide) ?_
  refine y_iadd C (dq DL_law2 49 rfl) ?_
  refine y_sld C (dq DL_law2 50 rfl) hX hi2 ?_
  refine y_pc 394 rfl ?_
  refine l_callF (n := 2) (As := [.int (xs (x4 + 1).toNatClampNeg), .int (xs (x4 + 2).toNatClampNeg)]) (rest := []) hF1 hF2 C (mX7_rate hF) (T := TX7) (N := 12) rfl (gmem 498 (by decide +kernel) rfl) (gmem 499 (by decide +kernel) rfl) (gmem 500 (by decide +kernel) rfl) (gmem 1 (by decide +kernel) rfl) (gmem 501 (by decide +kernel) rfl) (by decide +kernel) rfl (by decide) (by decide) (Nat.le_of_ble_eq_true rfl) hrm (dq DL_law2 51 rfl) rfl rfl ?_
  refine y_aload_n C (dq DL_law2 52 rfl) rfl 2 rfl ?_
  refine y_aload_n C (dq DL_law2 53 rfl) rfl 0 rfl ?_
  refine y_iload C (dq DL_law2 54 rfl) 4 rfl ?_
  refine y_pc 401 rfl ?_
  refine y_iconst (v := 1) C (dq DL_law2 55 rfl) (by decide) ?_
  refine y_iadd C (dq DL_law2 56 rfl) ?_
  refine y_sld C (dq DL_law2 57 rfl) hX hi1 ?_
  refine y_aload_n C (dq DL_law2 58 rfl) rfl 0 rfl ?_
  refine y_pc 405 rfl ?_
  refine y_iload C (dq DL_law2 59 rfl) 4 rfl ?_
  refine y_iconst (v := 2) C (dq DL_law3 0 rfl) (by decide) ?_
  refine y_iadd C (dq DL_law3 1 rfl) ?_
  refine y_sld C (dq DL_law3 2 rfl) hX hi2 ?_
  refine y_pc 410 rfl ?_
  refine l_callM (n := 2) (As := [.int (xs (x4 + 1).toNatClampNeg), .int (xs (x4 + 2).toNatClampNeg)]) (rest := [.int v]) hM1 hM2 C (mX8_rate hM) (T := TX8) (N := 49) rfl (gmem 1258 (by decide +kernel) rfl) (gmem 1259 (by decide +kernel) rfl) (gmem 1260 (by decide +kernel) rfl) (gmem 9 (by decide +kernel) rfl) (gmem 1261 (by decide +kernel) rfl) (by decide +kernel) rfl (by decide) (by decide) (Nat.le_of_ble_eq_true rfl) hrm (dq DL_law3 3 rfl) rfl rfl ?_
  exact y_icmp_eq (tgt := 1299) C (dq DL_law3 4 rfl) (by decide) (fun _ => y_pc 1299 rfl k) (fun hc => absurd rfl hc)
set_option maxHeartbeats 1000000 in
theorem law_6 {G : Gt} {l : Launch} {E EF EM : Ev} {cs : Nat × Nat} {b L ob : Nat} {xs : Nat → Int32} {fo : Nat → Int64} {x4 : Int32} {mF mM : Mm} (hF1 : EF.1 = E.1) (hF2 : EF.2.1 = E.2.1) (hM1 : EM.1 = E.1) (hM2 : EM.2.1 = E.2.1) (C : Cx G E cL_law 7 RL (some .boolean) 15 564) (hX : Sx G b L xs) (hrm : Rm G cs.1 cs.2) (hi1 : vp_in (x4 + 1) L) {v : Int32} {mF1 : Mm} {mM1 : Mm} (hF : fX7_turn SX7 mF 0 (xs (x4 + 1).toNatClampNeg) = some (v, mF1)) (hM : fX8_turn SX8 mM 0 (xs (x4 + 1).toNatClampNeg) = some (v, mM1)) (k : WG G l E cs (LWd E EF EM ob fo mF1 mM1) 1299 [(0, .ref b), (1, .ref (EF.2.2 0)), (2, .ref (EM.2.2 0)), (3, .ref ob), (4, .int x4)] []) : WG G l E cs (LWd E EF EM ob fo mF mM) 418 [(0, .ref b), (1, .ref (EF.2.2 0)), (2, .ref (EM.2.2 0)), (3, .ref ob), (4, .int x4)] [] := by
  refine y_aload_n C (dq DL_law3 7 rfl) rfl 1 rfl ?_
  refine y_aload_n C (dq DL_law3 8 rfl) rfl 0 rfl ?_
  refine y_iload C (dq DL_law3 9 rfl) 4 rfl ?_
  refine y_pc 422 rfl ?_
  refine y_iconst (v := 1) C (dq DL_law3 10 rfl) (by decide) ?_
  refine y_iadd C (dq DL_law3 11 rfl) ?_
  refine y_sld C (dq DL_law3 12 rfl) hX hi1 ?_
  refine l_callF (n := 1) (As := [.int (xs (x4 + 1).toNatClampNeg)]) (rest := []) hF1 hF2 C (mX7_turn hF) (T := TX7) (N := 12) rfl (gmem 506 (by decide +kernel) rfl) (gmem 507 (by decide +kernel) rfl) (gmem 508 (by decide +kernel) rfl) (gmem 1 (by decide +kernel) rfl) (gmem 509 (by decide +kernel) rfl) (by decide +kernel) rfl (by decide) (by decide) (Nat.le_of_ble_eq_true rfl) hrm (dq DL_law3 13 rfl) rfl rfl ?_
  refine y_pc 428 rfl ?_
  refine y_aload_n C (dq DL_law3 14 rfl) rfl 2 rfl ?_
  refine y_aload_n C (dq DL_law3 15 rfl) rfl 0 rfl ?_
  refine y_iload C (dq DL_law3 16 rfl) 4 rfl ?_
  refine y_iconst (v := 1) C (dq DL_law3 17 rfl) (by decide) ?_
  refine y_pc 433 rfl ?_
  refine y_iadd C (dq DL_law3 18 rfl) ?_
  refine y_sld C (dq DL_law3 19 rfl) hX hi1 ?_
  refine l_callM (n := 1) (As := [.int (xs (x4 + 1).toNatClampNeg)]) (rest := [.int v]) hM1 hM2 C (mX8_turn hM) (T := TX8) (N := 49) rfl (gmem 1266 (by decide +kernel) rfl) (gmem 1267 (by decide +kernel) rfl) (gmem 1268 (by decide +kernel) rfl) (gmem 9 (by decide +kernel) rfl) (gmem 1269 (by decide +kernel) rfl) (by decide +kernel) rfl (by decide) (by decide) (Nat.le_of_ble_eq_true rfl) hrm (dq DL_law3 20 rfl) rfl rfl ?_
  exact y_icmp_eq (tgt := 1299) C (dq DL_law3 21 rfl) (by decide) (fun _ => y_pc 1299 rfl k) (fun hc => absurd rfl hc)
set_option maxHeartbeats 1000000 in
theorem law_7 {G : Gt} {l : Launch} {E EF EM : Ev} {cs : Nat × Nat} {b L ob : Nat} {xs : Nat → Int32} {fo : Nat → Int64} {x4 : Int32} {mF mM : Mm} (hF1 : EF.1 = E.1) (hF2 : EF.2.1 = E.2.1) (hM1 : EM.1 = E.1) (hM2 : EM.2.1 = E.2.1) (C : Cx G E cL_law 7 RL (some .boolean) 15 564) (hX : Sx G b L xs) (hrm : Rm G cs.1 cs.2) (hi1 : vp_in (x4 + 1) L) (hi2 : vp_in (x4 + 2) L) (hi3 : vp_in (x4 + 3) L) {v : Int32} {mF1 : Mm} {mM1 : Mm} (hF : fX7_bounds SX7 mF 0 (xs (x4 + 1).toNatClampNeg) (xs (x4 + 2).toNatClampNeg) (xs (x4 + 3).toNatClampNeg) = some (v, mF1)) (hM : fX8_bounds SX8 mM 0 (xs (x4 + 1).toNatClampNeg) (xs (x4 + 2).toNatClampNeg) (xs (x4 + 3).toNatClampNeg) = some (v, mM1)) (k : WG G l E cs (LWd E EF EM ob fo mF1 mM1) 1299 [(0, .ref b), (1, .ref (EF.2.2 0)), (2, .ref (EM.2.2 0)), (3, .ref ob), (4, .int x4)] []) : WG G l E cs (LWd E EF EM ob fo mF mM) 443 [(0, .ref b), (1, .ref (EF.2.2 0)), (2, .ref (EM.2.2 0)), (3, .ref ob), (4, .int x4)] [] := by
  refine y_aload_n C (dq DL_law3 24 rfl) rfl 1 rfl ?_
  refine y_aload_n C (dq DL_law3 25 rfl) rfl 0 rfl ?_
  refine y_iload C (dq DL_law3 26 rfl) 4 rfl ?_
  refine y_pc 447 rfl ?_
  refine y_iconst (v := 1) C (dq DL_law3 27 rfl) (by decide) ?_
  refine y_iadd C (dq DL_law3 28 rfl) ?_
  refine y_sld C (dq DL_law3 29 rfl) hX hi1 ?_
  refine y_aload_n C (dq DL_law3 30 rfl) rfl 0 rfl ?_
  refine y_pc 451 rfl ?_
  refine y_iload C (dq DL_law3 31 rfl) 4 rfl ?_
  refine y_iconst (v := 2) C (dq DL_law3 32 rfl) (by decide) ?_
  refine y_iadd C (dq DL_law3 33 rfl) ?_
  refine y_sld C (dq DL_law3 34 rfl) hX hi2 ?_
  refine y_pc 456 rfl ?_
  refine y_aload_n C (dq DL_law3 35 rfl) rfl 0 rfl ?_
  refine y_iload C (dq DL_law3 36 rfl) 4 rfl ?_
  refine y_iconst (v := 3) C (dq DL_law3 37 rfl) (by decide) ?_
  refine y_iadd C (dq DL_law3 38 rfl) ?_
  refine y_pc 461 rfl ?_
  refine y_sld C (dq DL_law3 39 rfl) hX hi3 ?_
  refine l_callF (n := 3) (As := [.int (xs (x4 + 1).toNatClampNeg), .int (xs (x4 + 2).toNatClampNeg), .int (xs (x4 + 3).toNatClampNeg)]) (rest := []) hF1 hF2 C (mX7_bounds hF) (T := TX7) (N := 12) rfl (gmem 510 (by decide +kernel) rfl) (gmem 511 (by decide +kernel) rfl) (gmem 512 (by decide +kernel) rfl) (gmem 1 (by decide +kernel) rfl) (gmem 513 (by decide +kernel) rfl) (by decide +kernel) rfl (by decide) (by decide) (Nat.le_of_ble_eq_true rfl) hrm (dq DL_law3 40 rfl) rfl rfl ?_
  refine y_aload_n C (dq DL_law3 41 rfl) rfl 2 rfl ?_
  refine y_aload_n C (dq DL_law3 42 rfl) rfl 0 rfl ?_
  refine y_pc 467 rfl ?_
  refine y_iload C (dq DL_law3 43 rfl) 4 rfl ?_
  refine y_iconst (v := 1) C (dq DL_law3 44 rfl) (by decide) ?_
  refine y_iadd C (dq DL_law3 45 rfl) ?_
  refine y_sld C (dq DL_law3 46 rfl) hX hi1 ?_
  refine y_pc 472 rfl ?_
  refine y_aload_n C (dq DL_law3 47 rfl) rfl 0 rfl ?_
  refine y_iload C (dq DL_law3 48 rfl) 4 rfl ?_
  refine y_iconst (v := 2) C (dq DL_law3 49 rfl) (by decide) ?_
  refine y_iadd C (dq DL_law3 50 rfl) ?_
  refine y_pc 477 rfl ?_
  refine y_sld C (dq DL_law3 51 rfl) hX hi2 ?_
  refine y_aload_n C (dq DL_law3 52 rfl) rfl 0 rfl ?_
  refine y_iload C (dq DL_law3 53 rfl) 4 rfl ?_
  refine y_iconst (v := 3) C (dq DL_law3 54 rfl) (by decide) ?_
  refine y_pc 482 rfl ?_
  refine y_iadd C (dq DL_law3 55 rfl) ?_
  refine y_sld C (dq DL_law3 56 rfl) hX hi3 ?_
  refine l_callM (n := 3) (As := [.int (xs (x4 + 1).toNatClampNeg), .int (xs (x4 + 2).toNatClampNeg), .int (xs (x4 + 3).toNatClampNeg)]) (rest := [.int v]) hM1 hM2 C (mX8_bounds hM) (T := TX8) (N := 49) rfl (gmem 1270 (by decide +kernel) rfl) (gmem 1271 (by decide +kernel) rfl) (gmem 1272 (by decide +kernel) rfl) (gmem 9 (by decide +kernel) rfl) (gmem 1273 (by decide +kernel) rfl) (by decide +kernel) rfl (by decide) (by decide) (Nat.le_of_ble_eq_true rfl) hrm (dq DL_law3 57 rfl) rfl rfl ?_
  exact y_icmp_eq (tgt := 1299) C (dq DL_law3 58 rfl) (by decide) (fun _ => y_pc 1299 rfl k) (fun hc => absurd rfl hc)
set_option maxHeartbeats 1000000 in
theorem law_8 {G : Gt} {l : Launch} {E EF EM : Ev} {cs : Nat × Nat} {b L ob : Nat} {xs : Nat → Int32} {fo : Nat → Int64} {x4 : Int32} {mF mM : Mm} (hF1 : EF.1 = E.1) (hF2 : EF.2.1 = E.2.1) (hM1 : EM.1 = E.1) (hM2 : EM.2.1 = E.2.1) (C : Cx G E cL_law 7 RL (some .boolean) 15 564) (hX : Sx G b L xs) (hrm : Rm G cs.1 cs.2) (hi1 : vp_in (x4 + 1) L) (hi2 : vp_in (x4 + 2) L) {v : Int32} {mF1 : Mm} {mM1 : Mm} (hF : fX7_size SX7 mF 0 (xs (x4 + 1).toNatClampNeg) (xs (x4 + 2).toNatClampNeg) = some (v, mF1)) (hM : fX8_size SX8 mM 0 (xs (x4 + 1).toNatClampNeg) (xs (x4 + 2).toNatClampNeg) = some (v, mM1)) (k : WG G l E cs (LWd E EF EM ob fo mF1 mM1) 1299 [(0, .ref b), (1, .ref (EF.2.2 0)), (2, .ref (EM.2.2 0)), (3, .ref ob), (4, .int x4)] []) : WG G l E cs (LWd E EF EM ob fo mF mM) 492 [(0, .ref b), (1, .ref (EF.2.2 0)), (2, .ref (EM.2.2 0)), (3, .ref ob), (4, .int x4)] [] := by
  refine y_aload_n C (dq DL_law4 1 rfl) rfl 1 rfl ?_
  refine y_aload_n C (dq DL_law4 2 rfl) rfl 0 rfl ?_
  refine y_iload C (dq DL_law4 3 rfl) 4 rfl ?_
  refine y_pc 496 rfl ?_
  refine y_iconst (v := 1) C (dq DL_law4 4 rfl) (by decide) ?_
  refine y_iadd C (dq DL_law4 5 rfl) ?_
  refine y_sld C (dq DL_law4 6 rfl) hX hi1 ?_
  refine y_aload_n C (dq DL_law4 7 rfl) rfl 0 rfl ?_
  refine y_pc 500 rfl ?_
  refine y_iload C (dq DL_law4 8 rfl) 4 rfl ?_
  refine y_iconst (v := 2) C (dq DL_law4 9 rfl) (by decide) ?_
  refine y_iadd C (dq DL_law4 10 rfl) ?_
  refine y_sld C (dq DL_law4 11 rfl) hX hi2 ?_
  refine y_pc 505 rfl ?_
  refine l_callF (n := 2) (As := [.int (xs (x4 + 1).toNatClampNeg), .int (xs (x4 + 2).toNatClampNeg)]) (rest := []) hF1 hF2 C (mX7_size hF) (T := TX7) (N := 12) rfl (gmem 518 (by decide +kernel) rfl) (gmem 519 (by decide +kernel) rfl) (gmem 520 (by decide +kernel) rfl) (gmem 1 (by decide +kernel) rfl) (gmem 521 (by decide +kernel) rfl) (by decide +kernel) rfl (by decide) (by decide) (Nat.le_of_ble_eq_true rfl) hrm (dq DL_law4 12 rfl) rfl rfl ?_
  refine y_aload_n C (dq DL_law4 13 rfl) rfl 2 rfl ?_
  refine y_aload_n C (dq DL_law4 14 rfl) rfl 0 rfl ?_
  refine y_iload C (dq DL_law4 15 rfl) 4 rfl ?_
  refine y_pc 512 rfl ?_
  refine y_iconst (v := 1) C (dq DL_law4 16 rfl) (by decide) ?_
  refine y_iadd C (dq DL_law4 17 rfl) ?_
  refine y_sld C (dq DL_law4 18 rfl) hX hi1 ?_
  refine y_aload_n C (dq DL_law4 19 rfl) rfl 0 rfl ?_
  refine y_pc 516 rfl ?_
  refine y_iload C (dq DL_law4 20 rfl) 4 rfl ?_
  refine y_iconst (v := 2) C (dq DL_law4 21 rfl) (by decide) ?_
  refine y_iadd C (dq DL_law4 22 rfl) ?_
  refine y_sld C (dq DL_law4 23 rfl) hX hi2 ?_
  refine y_pc 521 rfl ?_
  refine l_callM (n := 2) (As := [.int (xs (x4 + 1).toNatClampNeg), .int (xs (x4 + 2).toNatClampNeg)]) (rest := [.int v]) hM1 hM2 C (mX8_size hM) (T := TX8) (N := 49) rfl (gmem 1278 (by decide +kernel) rfl) (gmem 1279 (by decide +kernel) rfl) (gmem 1280 (by decide +kernel) rfl) (gmem 9 (by decide +kernel) rfl) (gmem 1281 (by decide +kernel) rfl) (by decide +kernel) rfl (by decide) (by decide) (Nat.le_of_ble_eq_true rfl) hrm (dq DL_law4 24 rfl) rfl rfl ?_
  exact y_icmp_eq (tgt := 1299) C (dq DL_law4 25 rfl) (by decide) (fun _ => y_pc 1299 rfl k) (fun hc => absurd rfl hc)
set_option maxHeartbeats 1000000 in
theorem law_10 {G : Gt} {l : Launch} {E EF EM : Ev} {cs : Nat × Nat} {b L ob : Nat} {xs : Nat → Int32} {fo : Nat → Int64} {x4 : Int32} {mF mM : Mm} (hF1 : EF.1 = E.1) (hF2 : EF.2.1 = E.2.1) (hM1 : EM.1 = E.1) (hM2 : EM.2.1 = E.2.1) (C : Cx G E cL_law 7 RL (some .boolean) 15 564) (hX : Sx G b L xs) (hrm : Rm G cs.1 cs.2) (hi1 : vp_in (x4 + 1) L) (hi2 : vp_in (x4 + 2) L) {v : Int32} {mM1 : Mm} (hF : fX7_queue SX7 mF 0 (xs (x4 + 1).toNatClampNeg) (xs (x4 + 2).toNatClampNeg) = some v) (hM : fX8_queue SX8 mM 0 (xs (x4 + 1).toNatClampNeg) (xs (x4 + 2).toNatClampNeg) = some (v, mM1)) (k : WG G l E cs (LWd E EF EM ob fo mF mM1) 1299 [(0, .ref b), (1, .ref (EF.2.2 0)), (2, .ref (EM.2.2 0)), (3, .ref ob), (4, .int x4)] []) : WG G l E cs (LWd E EF EM ob fo mF mM) 597 [(0, .ref b), (1, .ref (EF.2.2 0)), (2, .ref (EM.2.2 0)), (3, .ref ob), (4, .int x4)] [] := by
  refine y_aload_n C (dq DL_law5 13 rfl) rfl 1 rfl ?_
  refine y_aload_n C (dq DL_law5 14 rfl) rfl 0 rfl ?_
  refine y_iload C (dq DL_law5 15 rfl) 4 rfl ?_
  refine y_pc 601 rfl ?_
  refine y_iconst (v := 1) C (dq DL_law5 16 rfl) (by decide) ?_
  refine y_iadd C (dq DL_law5 17 rfl) ?_
  refine y_sld C (dq DL_law5 18 rfl) hX hi1 ?_
  refine y_aload_n C (dq DL_law5 19 rfl) rfl 0 rfl ?_
  refine y_pc 605 rfl ?_
  refine y_iload C (dq DL_law5 20 rfl) 4 rfl ?_
  refine y_iconst (v := 2) C (dq DL_law5 21 rfl) (by decide) ?_
  refine y_iadd C (dq DL_law5 22 rfl) ?_
  refine y_sld C (dq DL_law5 23 rfl) hX hi2 ?_
  refine y_pc 610 rfl ?_
  refine l_callF (n := 2) (As := [.int (xs (x4 + 1).toNatClampNeg), .int (xs (x4 + 2).toNatClampNeg)]) (rest := []) hF1 hF2 C (mX7_queue hF) (T := TX7) (N := 12) rfl (gmem 522 (by decide +kernel) rfl) (gmem 523 (by decide +kernel) rfl) (gmem 524 (by decide +kernel) rfl) (gmem 1 (by decide +kernel) rfl) (gmem 525 (by decide +kernel) rfl) (by decide +kernel) rfl (by decide) (by decide) (Nat.le_of_ble_eq_true rfl) hrm (dq DL_law5 24 rfl) rfl rfl ?_
  refine y_aload_n C (dq DL_law5 25 rfl) rfl 2 rfl ?_
  refine y_aload_n C (dq DL_law5 26 rfl) rfl 0 rfl ?_
  refine y_iload C (dq DL_law5 27 rfl) 4 rfl ?_
  refine y_pc 617 rfl ?_
  refine y_iconst (v := 1) C (dq DL_law5 28 rfl) (by decide) ?_
  refine y_iadd C (dq DL_law5 29 rfl) ?_
  refine y_sld C (dq DL_law5 30 rfl) hX hi1 ?_
  refine y_aload_n C (dq DL_law5 31 rfl) rfl 0 rfl ?_
  refine y_pc 621 rfl ?_
  refine y_iload C (dq DL_law5 32 rfl) 4 rfl ?_
  refine y_iconst (v := 2) C (dq DL_law5 33 rfl) (by decide) ?_
  refine y_iadd C (dq DL_law5 34 rfl) ?_
  refine y_sld C (dq DL_law5 35 rfl) hX hi2 ?_
  refine y_pc 626 rfl ?_
  refine l_callM (n := 2) (As := [.int (xs (x4 + 1).toNatClampNeg), .int (xs (x4 + 2).toNatClampNeg)]) (rest := [.int v]) hM1 hM2 C (mX8_queue hM) (T := TX8) (N := 49) rfl (gmem 1286 (by decide +kernel) rfl) (gmem 1287 (by decide +kernel) rfl) (gmem 1288 (by decide +kernel) rfl) (gmem 9 (by decide +kernel) rfl) (gmem 1289 (by decide +kernel) rfl) (by decide +kernel) rfl (by decide) (by decide) (Nat.le_of_ble_eq_true rfl) hrm (dq DL_law5 36 rfl) rfl rfl ?_
  exact y_icmp_eq (tgt := 1299) C (dq DL_law5 37 rfl) (by decide) (fun _ => y_pc 1299 rfl k) (fun hc => absurd rfl hc)
set_option maxHeartbeats 1000000 in
theorem law_11 {G : Gt} {l : Launch} {E EF EM : Ev} {cs : Nat × Nat} {b L ob : Nat} {xs : Nat → Int32} {fo : Nat → Int64} {x4 : Int32} {mF mM : Mm} (hF1 : EF.1 = E.1) (hF2 : EF.2.1 = E.2.1) (hM1 : EM.1 = E.1) (hM2 : EM.2.1 = E.2.1) (C : Cx G E cL_law 7 RL (some .boolean) 15 564) (hX : Sx G b L xs) (hrm : Rm G cs.1 cs.2) (hi1 : vp_in (x4 + 1) L) (hi2 : vp_in (x4 + 2) L) {v : Int32} {mM1 : Mm} (hF : fX7_flow SX7 mF 0 (xs (x4 + 1).toNatClampNeg) (xs (x4 + 2).toNatClampNeg) = some v) (hM : fX8_flow SX8 mM 0 (xs (x4 + 1).toNatClampNeg) (xs (x4 + 2).toNatClampNeg) = some (v, mM1)) (k : WG G l E cs (LWd E EF EM ob fo mF mM1) 1299 [(0, .ref b), (1, .ref (EF.2.2 0)), (2, .ref (EM.2.2 0)), (3, .ref ob), (4, .int x4)] []) : WG G l E cs (LWd E EF EM ob fo mF mM) 634 [(0, .ref b), (1, .ref (EF.2.2 0)), (2, .ref (EM.2.2 0)), (3, .ref ob), (4, .int x4)] [] := by
  refine y_aload_n C (dq DL_law5 40 rfl) rfl 1 rfl ?_
  refine y_aload_n C (dq DL_law5 41 rfl) rfl 0 rfl ?_
  refine y_iload C (dq DL_law5 42 rfl) 4 rfl ?_
  refine y_pc 638 rfl ?_
  refine y_iconst (v := 1) C (dq DL_law5 43 rfl) (by decide) ?_
  refine y_iadd C (dq DL_law5 44 rfl) ?_
  refine y_sld C (dq DL_law5 45 rfl) hX hi1 ?_
  refine y_aload_n C (dq DL_law5 46 rfl) rfl 0 rfl ?_
  refine y_pc 642 rfl ?_
  refine y_iload C (dq DL_law5 47 rfl) 4 rfl ?_
  refine y_iconst (v := 2) C (dq DL_law5 48 rfl) (by decide) ?_
  refine y_iadd C (dq DL_law5 49 rfl) ?_
  refine y_sld C (dq DL_law5 50 rfl) hX hi2 ?_
  refine y_pc 647 rfl ?_
  refine l_callF (n := 2) (As := [.int (xs (x4 + 1).toNatClampNeg), .int (xs (x4 + 2).toNatClampNeg)]) (rest := []) hF1 hF2 C (mX7_flow hF) (T := TX7) (N := 12) rfl (gmem 526 (by decide +kernel) rfl) (gmem 527 (by decide +kernel) rfl) (gmem 528 (by decide +kernel) rfl) (gmem 1 (by decide +kernel) rfl) (gmem 529 (by decide +kernel) rfl) (by decide +kernel) rfl (by decide) (by decide) (Nat.le_of_ble_eq_true rfl) hrm (dq DL_law5 51 rfl) rfl rfl ?_
  refine y_aload_n C (dq DL_law5 52 rfl) rfl 2 rfl ?_
  refine y_aload_n C (dq DL_law5 53 rfl) rfl 0 rfl ?_
  refine y_iload C (dq DL_law5 54 rfl) 4 rfl ?_
  refine y_pc 654 rfl ?_
  refine y_iconst (v := 1) C (dq DL_law5 55 rfl) (by decide) ?_
  refine y_iadd C (dq DL_law5 56 rfl) ?_
  refine y_sld C (dq DL_law5 57 rfl) hX hi1 ?_
  refine y_aload_n C (dq DL_law5 58 rfl) rfl 0 rfl ?_
  refine y_pc 658 rfl ?_
  refine y_iload C (dq DL_law5 59 rfl) 4 rfl ?_
  refine y_iconst (v := 2) C (dq DL_law6 0 rfl) (by decide) ?_
  refine y_iadd C (dq DL_law6 1 rfl) ?_
  refine y_sld C (dq DL_law6 2 rfl) hX hi2 ?_
  refine y_pc 663 rfl ?_
  refine l_callM (n := 2) (As := [.int (xs (x4 + 1).toNatClampNeg), .int (xs (x4 + 2).toNatClampNeg)]) (rest := [.int v]) hM1 hM2 C (mX8_flow hM) (T := TX8) (N := 49) rfl (gmem 1290 (by decide +kernel) rfl) (gmem 1291 (by decide +kernel) rfl) (gmem 1292 (by decide +kernel) rfl) (gmem 9 (by decide +kernel) rfl) (gmem 1293 (by decide +kernel) rfl) (by decide +kernel) rfl (by decide) (by decide) (Nat.le_of_ble_eq_true rfl) hrm (dq DL_law6 3 rfl) rfl rfl ?_
  exact y_icmp_eq (tgt := 1299) C (dq DL_law6 4 rfl) (by decide) (fun _ => y_pc 1299 rfl k) (fun hc => absurd rfl hc)
set_option maxHeartbeats 1000000 in
theorem law_12 {G : Gt} {l : Launch} {E EF EM : Ev} {cs : Nat × Nat} {b L ob : Nat} {xs : Nat → Int32} {fo : Nat → Int64} {x4 : Int32} {mF mM : Mm} (hF1 : EF.1 = E.1) (hF2 : EF.2.1 = E.2.1) (hM1 : EM.1 = E.1) (hM2 : EM.2.1 = E.2.1) (C : Cx G E cL_law 7 RL (some .boolean) 15 564) (hX : Sx G b L xs) (hrm : Rm G cs.1 cs.2) (hi1 : vp_in (x4 + 1) L) (hi2 : vp_in (x4 + 2) L) {v : Int32} {mM1 : Mm} (hF : fX7_path SX7 mF 0 (xs (x4 + 1).toNatClampNeg) (xs (x4 + 2).toNatClampNeg) = some v) (hM : fX8_path SX8 mM 0 (xs (x4 + 1).toNatClampNeg) (xs (x4 + 2).toNatClampNeg) = some (v, mM1)) (k : WG G l E cs (LWd E EF EM ob fo mF mM1) 1299 [(0, .ref b), (1, .ref (EF.2.2 0)), (2, .ref (EM.2.2 0)), (3, .ref ob), (4, .int x4)] []) : WG G l E cs (LWd E EF EM ob fo mF mM) 671 [(0, .ref b), (1, .ref (EF.2.2 0)), (2, .ref (EM.2.2 0)), (3, .ref ob), (4, .int x4)] [] := by
  refine y_aload_n C (dq DL_law6 7 rfl) rfl 1 rfl ?_
  refine y_aload_n C (dq DL_law6 8 rfl) rfl 0 rfl ?_
  refine y_iload C (dq DL_law6 9 rfl) 4 rfl ?_
  refine y_pc 675 rfl ?_
  refine y_iconst (v := 1) C (dq DL_law6 10 rfl) (by decide) ?_
  refine y_iadd C (dq DL_law6 11 rfl) ?_
  refine y_sld C (dq DL_law6 12 rfl) hX hi1 ?_
  refine y_aload_n C (dq DL_law6 13 rfl) rfl 0 rfl ?_
  refine y_pc 679 rfl ?_
  refine y_iload C (dq DL_law6 14 rfl) 4 rfl ?_
  refine y_iconst (v := 2) C (dq DL_law6 15 rfl) (by decide) ?_
  refine y_iadd C (dq DL_law6 16 rfl) ?_
  refine y_sld C (dq DL_law6 17 rfl) hX hi2 ?_
  refine y_pc 684 rfl ?_
  refine l_callF (n := 2) (As := [.int (xs (x4 + 1).toNatClampNeg), .int (xs (x4 + 2).toNatClampNeg)]) (rest := []) hF1 hF2 C (mX7_path hF) (T := TX7) (N := 12) rfl (gmem 530 (by decide +kernel) rfl) (gmem 531 (by decide +kernel) rfl) (gmem 532 (by decide +kernel) rfl) (gmem 1 (by decide +kernel) rfl) (gmem 533 (by decide +kernel) rfl) (by decide +kernel) rfl (by decide) (by decide) (Nat.le_of_ble_eq_true rfl) hrm (dq DL_law6 18 rfl) rfl rfl ?_
  refine y_aload_n C (dq DL_law6 19 rfl) rfl 2 rfl ?_
  refine y_aload_n C (dq DL_law6 20 rfl) rfl 0 rfl ?_
  refine y_iload C (dq DL_law6 21 rfl) 4 rfl ?_
  refine y_pc 691 rfl ?_
  refine y_iconst (v := 1) C (dq DL_law6 22 rfl) (by decide) ?_
  refine y_iadd C (dq DL_law6 23 rfl) ?_
  refine y_sld C (dq DL_law6 24 rfl) hX hi1 ?_
  refine y_aload_n C (dq DL_law6 25 rfl) rfl 0 rfl ?_
  refine y_pc 695 rfl ?_
  refine y_iload C (dq DL_law6 26 rfl) 4 rfl ?_
  refine y_iconst (v := 2) C (dq DL_law6 27 rfl) (by decide) ?_
  refine y_iadd C (dq DL_law6 28 rfl) ?_
  refine y_sld C (dq DL_law6 29 rfl) hX hi2 ?_
  refine y_pc 700 rfl ?_
  refine l_callM (n := 2) (As := [.int (xs (x4 + 1).toNatClampNeg), .int (xs (x4 + 2).toNatClampNeg)]) (rest := [.int v]) hM1 hM2 C (mX8_path hM) (T := TX8) (N := 49) rfl (gmem 1294 (by decide +kernel) rfl) (gmem 1295 (by decide +kernel) rfl) (gmem 1296 (by decide +kernel) rfl) (gmem 9 (by decide +kernel) rfl) (gmem 1297 (by decide +kernel) rfl) (by decide +kernel) rfl (by decide) (by decide) (Nat.le_of_ble_eq_true rfl) hrm (dq DL_law6 30 rfl) rfl rfl ?_
  exact y_icmp_eq (tgt := 1299) C (dq DL_law6 31 rfl) (by decide) (fun _ => y_pc 1299 rfl k) (fun hc => absurd rfl hc)
set_option maxHeartbeats 1000000 in
theorem law_13 {G : Gt} {l : Launch} {E EF EM : Ev} {cs : Nat × Nat} {b L ob : Nat} {xs : Nat → Int32} {fo : Nat → Int64} {x4 : Int32} {mF mM : Mm} (hF1 : EF.1 = E.1) (hF2 : EF.2.1 = E.2.1) (hM1 : EM.1 = E.1) (hM2 : EM.2.1 = E.2.1) (C : Cx G E cL_law 7 RL (some .boolean) 15 564) (hX : Sx G b L xs) (hrm : Rm G cs.1 cs.2) (hi1 : vp_in (x4 + 1) L) {v : Int32} {mM1 : Mm} (hF : fX7_feedback SX7 mF 0 (xs (x4 + 1).toNatClampNeg) = some v) (hM : fX8_feedback SX8 mM 0 (xs (x4 + 1).toNatClampNeg) = some (v, mM1)) (k : WG G l E cs (LWd E EF EM ob fo mF mM1) 1299 [(0, .ref b), (1, .ref (EF.2.2 0)), (2, .ref (EM.2.2 0)), (3, .ref ob), (4, .int x4)] []) : WG G l E cs (LWd E EF EM ob fo mF mM) 708 [(0, .ref b), (1, .ref (EF.2.2 0)), (2, .ref (EM.2.2 0)), (3, .ref ob), (4, .int x4)] [] := by
  refine y_aload_n C (dq DL_law6 34 rfl) rfl 1 rfl ?_
  refine y_aload_n C (dq DL_law6 35 rfl) rfl 0 rfl ?_
  refine y_iload C (dq DL_law6 36 rfl) 4 rfl ?_
  refine y_pc 712 rfl ?_
  refine y_iconst (v := 1) C (dq DL_law6 37 rfl) (by decide) ?_
  refine y_iadd C (dq DL_law6 38 rfl) ?_
  refine y_sld C (dq DL_law6 39 rfl) hX hi1 ?_
  refine l_callF (n := 1) (As := [.int (xs (x4 + 1).toNatClampNeg)]) (rest := []) hF1 hF2 C (mX7_feedback hF) (T := TX7) (N := 12) rfl (gmem 534 (by decide +kernel) rfl) (gmem 535 (by decide +kernel) rfl) (gmem 536 (by decide +kernel) rfl) (gmem 1 (by decide +kernel) rfl) (gmem 537 (by decide +kernel) rfl) (by decide +kernel) rfl (by decide) (by decide) (Nat.le_of_ble_eq_true rfl) hrm (dq DL_law6 40 rfl) rfl rfl ?_
  refine y_pc 718 rfl ?_
  refine y_aload_n C (dq DL_law6 41 rfl) rfl 2 rfl ?_
  refine y_aload_n C (dq DL_law6 42 rfl) rfl 0 rfl ?_
  refine y_iload C (dq DL_law6 43 rfl) 4 rfl ?_
  refine y_iconst (v := 1) C (dq DL_law6 44 rfl) (by decide) ?_
  refine y_pc 723 rfl ?_
  refine y_iadd C (dq DL_law6 45 rfl) ?_
  refine y_sld C (dq DL_law6 46 rfl) hX hi1 ?_
  refine l_callM (n := 1) (As := [.int (xs (x4 + 1).toNatClampNeg)]) (rest := [.int v]) hM1 hM2 C (mX8_feedback hM) (T := TX8) (N := 49) rfl (gmem 1298 (by decide +kernel) rfl) (gmem 1299 (by decide +kernel) rfl) (gmem 1300 (by decide +kernel) rfl) (gmem 9 (by decide +kernel) rfl) (gmem 1301 (by decide +kernel) rfl) (by decide +kernel) rfl (by decide) (by decide) (Nat.le_of_ble_eq_true rfl) hrm (dq DL_law6 47 rfl) rfl rfl ?_
  exact y_icmp_eq (tgt := 1299) C (dq DL_law6 48 rfl) (by decide) (fun _ => y_pc 1299 rfl k) (fun hc => absurd rfl hc)
set_option maxHeartbeats 1000000 in
theorem law_14 {G : Gt} {l : Launch} {E EF EM : Ev} {cs : Nat × Nat} {b L ob : Nat} {xs : Nat → Int32} {fo : Nat → Int64} {x4 : Int32} {mF mM : Mm} (hF1 : EF.1 = E.1) (hF2 : EF.2.1 = E.2.1) (hM1 : EM.1 = E.1) (hM2 : EM.2.1 = E.2.1) (C : Cx G E cL_law 7 RL (some .boolean) 15 564) (hX : Sx G b L xs) (hrm : Rm G cs.1 cs.2) (hi1 : vp_in (x4 + 1) L) {v : Int32} {mM1 : Mm} (hF : fX7_notice SX7 mF 0 (xs (x4 + 1).toNatClampNeg) = some v) (hM : fX8_notice SX8 mM 0 (xs (x4 + 1).toNatClampNeg) = some (v, mM1)) (k : WG G l E cs (LWd E EF EM ob fo mF mM1) 1299 [(0, .ref b), (1, .ref (EF.2.2 0)), (2, .ref (EM.2.2 0)), (3, .ref ob), (4, .int x4)] []) : WG G l E cs (LWd E EF EM ob fo mF mM) 733 [(0, .ref b), (1, .ref (EF.2.2 0)), (2, .ref (EM.2.2 0)), (3, .ref ob), (4, .int x4)] [] := by
  refine y_aload_n C (dq DL_law6 51 rfl) rfl 1 rfl ?_
  refine y_aload_n C (dq DL_law6 52 rfl) rfl 0 rfl ?_
  refine y_iload C (dq DL_law6 53 rfl) 4 rfl ?_
  refine y_pc 737 rfl ?_
  refine y_iconst (v := 1) C (dq DL_law6 54 rfl) (by decide) ?_
  refine y_iadd C (dq DL_law6 55 rfl) ?_
  refine y_sld C (dq DL_law6 56 rfl) hX hi1 ?_
  refine l_callF (n := 1) (As := [.int (xs (x4 + 1).toNatClampNeg)]) (rest := []) hF1 hF2 C (mX7_notice hF) (T := TX7) (N := 12) rfl (gmem 540 (by decide +kernel) rfl) (gmem 541 (by decide +kernel) rfl) (gmem 542 (by decide +kernel) rfl) (gmem 1 (by decide +kernel) rfl) (gmem 543 (by decide +kernel) rfl) (by decide +kernel) rfl (by decide) (by decide) (Nat.le_of_ble_eq_true rfl) hrm (dq DL_law6 57 rfl) rfl rfl ?_
  refine y_pc 743 rfl ?_
  refine y_aload_n C (dq DL_law6 58 rfl) rfl 2 rfl ?_
  refine y_aload_n C (dq DL_law6 59 rfl) rfl 0 rfl ?_
  refine y_iload C (dq DL_law7 0 rfl) 4 rfl ?_
  refine y_iconst (v := 1) C (dq DL_law7 1 rfl) (by decide) ?_
  refine y_pc 748 rfl ?_
  refine y_iadd C (dq DL_law7 2 rfl) ?_
  refine y_sld C (dq DL_law7 3 rfl) hX hi1 ?_
  refine l_callM (n := 1) (As := [.int (xs (x4 + 1).toNatClampNeg)]) (rest := [.int v]) hM1 hM2 C (mX8_notice hM) (T := TX8) (N := 49) rfl (gmem 1303 (by decide +kernel) rfl) (gmem 1304 (by decide +kernel) rfl) (gmem 1305 (by decide +kernel) rfl) (gmem 9 (by decide +kernel) rfl) (gmem 1306 (by decide +kernel) rfl) (by decide +kernel) rfl (by decide) (by decide) (Nat.le_of_ble_eq_true rfl) hrm (dq DL_law7 4 rfl) rfl rfl ?_
  exact y_icmp_eq (tgt := 1299) C (dq DL_law7 5 rfl) (by decide) (fun _ => y_pc 1299 rfl k) (fun hc => absurd rfl hc)
set_option maxHeartbeats 1000000 in
theorem law_15 {G : Gt} {l : Launch} {E EF EM : Ev} {cs : Nat × Nat} {b L ob : Nat} {xs : Nat → Int32} {fo : Nat → Int64} {x4 : Int32} {mF mM : Mm} (hF1 : EF.1 = E.1) (hF2 : EF.2.1 = E.2.1) (hM1 : EM.1 = E.1) (hM2 : EM.2.1 = E.2.1) (C : Cx G E cL_law 7 RL (some .boolean) 15 564) (hX : Sx G b L xs) (hrm : Rm G cs.1 cs.2) (hi1 : vp_in (x4 + 1) L) {v : Int32} {mM1 : Mm} (hF : fX7_headroom SX7 mF 0 (xs (x4 + 1).toNatClampNeg) = some v) (hM : fX8_headroom SX8 mM 0 (xs (x4 + 1).toNatClampNeg) = some (v, mM1)) (k : WG G l E cs (LWd E EF EM ob fo mF mM1) 1299 [(0, .ref b), (1, .ref (EF.2.2 0)), (2, .ref (EM.2.2 0)), (3, .ref ob), (4, .int x4)] []) : WG G l E cs (LWd E EF EM ob fo mF mM) 758 [(0, .ref b), (1, .ref (EF.2.2 0)), (2, .ref (EM.2.2 0)), (3, .ref ob), (4, .int x4)] [] := by
  refine y_aload_n C (dq DL_law7 8 rfl) rfl 1 rfl ?_
  refine y_aload_n C (dq DL_law7 9 rfl) rfl 0 rfl ?_
  refine y_iload C (dq DL_law7 10 rfl) 4 rfl ?_
  refine y_pc 762 rfl ?_
  refine y_iconst (v := 1) C (dq DL_law7 11 rfl) (by decide) ?_
  refine y_iadd C (dq DL_law7 12 rfl) ?_
  refine y_sld C (dq DL_law7 13 rfl) hX hi1 ?_
  refine l_callF (n := 1) (As := [.int (xs (x4 + 1).toNatClampNeg)]) (rest := []) hF1 hF2 C (mX7_headroom hF) (T := TX7) (N := 12) rfl (gmem 545 (by decide +kernel) rfl) (gmem 546 (by decide +kernel) rfl) (gmem 547 (by decide +kernel) rfl) (gmem 1 (by decide +kernel) rfl) (gmem 548 (by decide +kernel) rfl) (by decide +kernel) rfl (by decide) (by decide) (Nat.le_of_ble_eq_true rfl) hrm (dq DL_law7 14 rfl) rfl rfl ?_
  refine y_pc 768 rfl ?_
  refine y_aload_n C (dq DL_law7 15 rfl) rfl 2 rfl ?_
  refine y_aload_n C (dq DL_law7 16 rfl) rfl 0 rfl ?_
  refine y_iload C (dq DL_law7 17 rfl) 4 rfl ?_
  refine y_iconst (v := 1) C (dq DL_law7 18 rfl) (by decide) ?_
  refine y_pc 773 rfl ?_
  refine y_iadd C (dq DL_law7 19 rfl) ?_
  refine y_sld C (dq DL_law7 20 rfl) hX hi1 ?_
  refine l_callM (n := 1) (As := [.int (xs (x4 + 1).toNatClampNeg)]) (rest := [.int v]) hM1 hM2 C (mX8_headroom hM) (T := TX8) (N := 49) rfl (gmem 1307 (by decide +kernel) rfl) (gmem 1308 (by decide +kernel) rfl) (gmem 1309 (by decide +kernel) rfl) (gmem 9 (by decide +kernel) rfl) (gmem 1310 (by decide +kernel) rfl) (by decide +kernel) rfl (by decide) (by decide) (Nat.le_of_ble_eq_true rfl) hrm (dq DL_law7 21 rfl) rfl rfl ?_
  exact y_icmp_eq (tgt := 1299) C (dq DL_law7 22 rfl) (by decide) (fun _ => y_pc 1299 rfl k) (fun hc => absurd rfl hc)
set_option maxHeartbeats 1000000 in
theorem law_16 {G : Gt} {l : Launch} {E EF EM : Ev} {cs : Nat × Nat} {b L ob : Nat} {xs : Nat → Int32} {fo : Nat → Int64} {x4 : Int32} {mF mM : Mm} (hF1 : EF.1 = E.1) (hF2 : EF.2.1 = E.2.1) (hM1 : EM.1 = E.1) (hM2 : EM.2.1 = E.2.1) (C : Cx G E cL_law 7 RL (some .boolean) 15 564) (hX : Sx G b L xs) (hrm : Rm G cs.1 cs.2)  {v : Int32} {mM1 : Mm} (hF : fX7_safe SX7 mF 0  = some v) (hM : fX8_safe SX8 mM 0  = some (v, mM1)) (k : WG G l E cs (LWd E EF EM ob fo mF mM1) 1299 [(0, .ref b), (1, .ref (EF.2.2 0)), (2, .ref (EM.2.2 0)), (3, .ref ob), (4, .int x4)] []) : WG G l E cs (LWd E EF EM ob fo mF mM) 783 [(0, .ref b), (1, .ref (EF.2.2 0)), (2, .ref (EM.2.2 0)), (3, .ref ob), (4, .int x4)] [] := by
  refine y_aload_n C (dq DL_law7 25 rfl) rfl 1 rfl ?_
  refine l_callF (n := 0) (As := []) (rest := []) hF1 hF2 C (mX7_safe hF) (T := TX7) (N := 12) rfl (gmem 553 (by decide +kernel) rfl) (gmem 554 (by decide +kernel) rfl) (gmem 555 (by decide +kernel) rfl) (gmem 1 (by decide +kernel) rfl) (gmem 556 (by decide +kernel) rfl) (by decide +kernel) rfl (by decide) (by decide) (Nat.le_of_ble_eq_true rfl) hrm (dq DL_law7 26 rfl) rfl rfl ?_
  refine y_aload_n C (dq DL_law7 27 rfl) rfl 2 rfl ?_
  refine y_pc 788 rfl ?_
  refine l_callM (n := 0) (As := []) (rest := [.int v]) hM1 hM2 C (mX8_safe hM) (T := TX8) (N := 49) rfl (gmem 1315 (by decide +kernel) rfl) (gmem 1316 (by decide +kernel) rfl) (gmem 1317 (by decide +kernel) rfl) (gmem 9 (by decide +kernel) rfl) (gmem 1318 (by decide +kernel) rfl) (by decide +kernel) rfl (by decide) (by decide) (Nat.le_of_ble_eq_true rfl) hrm (dq DL_law7 28 rfl) rfl rfl ?_
  exact y_icmp_eq (tgt := 1299) C (dq DL_law7 29 rfl) (by decide) (fun _ => y_pc 1299 rfl k) (fun hc => absurd rfl hc)
set_option maxHeartbeats 1000000 in
theorem law_17 {G : Gt} {l : Launch} {E EF EM : Ev} {cs : Nat × Nat} {b L ob : Nat} {xs : Nat → Int32} {fo : Nat → Int64} {x4 : Int32} {mF mM : Mm} (hF1 : EF.1 = E.1) (hF2 : EF.2.1 = E.2.1) (hM1 : EM.1 = E.1) (hM2 : EM.2.1 = E.2.1) (C : Cx G E cL_law 7 RL (some .boolean) 15 564) (hX : Sx G b L xs) (hrm : Rm G cs.1 cs.2) (hi1 : vp_in (x4 + 1) L) {v : Int32} {mM1 : Mm} (hF : fX7_waits SX7 mF 0 (xs (x4 + 1).toNatClampNeg) = some v) (hM : fX8_waits SX8 mM 0 (xs (x4 + 1).toNatClampNeg) = some (v, mM1)) (k : WG G l E cs (LWd E EF EM ob fo mF mM1) 1299 [(0, .ref b), (1, .ref (EF.2.2 0)), (2, .ref (EM.2.2 0)), (3, .ref ob), (4, .int x4)] []) : WG G l E cs (LWd E EF EM ob fo mF mM) 796 [(0, .ref b), (1, .ref (EF.2.2 0)), (2, .ref (EM.2.2 0)), (3, .ref ob), (4, .int x4)] [] := by
  refine y_aload_n C (dq DL_law7 32 rfl) rfl 1 rfl ?_
  refine y_aload_n C (dq DL_law7 33 rfl) rfl 0 rfl ?_
  refine y_iload C (dq DL_law7 34 rfl) 4 rfl ?_
  refine y_pc 800 rfl ?_
  refine y_iconst (v := 1) C (dq DL_law7 35 rfl) (by decide) ?_
  refine y_iadd C (dq DL_law7 36 rfl) ?_
  refine y_sld C (dq DL_law7 37 rfl) hX hi1 ?_
  refine l_callF (n := 1) (As := [.int (xs (x4 + 1).toNatClampNeg)]) (rest := []) hF1 hF2 C (mX7_waits hF) (T := TX7) (N := 12) rfl (gmem 557 (by decide +kernel) rfl) (gmem 558 (by decide +kernel) rfl) (gmem 559 (by decide +kernel) rfl) (gmem 1 (by decide +kernel) rfl) (gmem 560 (by decide +kernel) rfl) (by decide +kernel) rfl (by decide) (by decide) (Nat.le_of_ble_eq_true rfl) hrm (dq DL_law7 38 rfl) rfl rfl ?_
  refine y_pc 806 rfl ?_
  refine y_aload_n C (dq DL_law7 39 rfl) rfl 2 rfl ?_
  refine y_aload_n C (dq DL_law7 40 rfl) rfl 0 rfl ?_
  refine y_iload C (dq DL_law7 41 rfl) 4 rfl ?_
  refine y_iconst (v := 1) C (dq DL_law7 42 rfl) (by decide) ?_
  refine y_pc 811 rfl ?_
  refine y_iadd C (dq DL_law7 43 rfl) ?_
  refine y_sld C (dq DL_law7 44 rfl) hX hi1 ?_
  refine l_callM (n := 1) (As := [.int (xs (x4 + 1).toNatClampNeg)]) (rest := [.int v]) hM1 hM2 C (mX8_waits hM) (T := TX8) (N := 49) rfl (gmem 1323 (by decide +kernel) rfl) (gmem 1324 (by decide +kernel) rfl) (gmem 1325 (by decide +kernel) rfl) (gmem 9 (by decide +kernel) rfl) (gmem 1326 (by decide +kernel) rfl) (by decide +kernel) rfl (by decide) (by decide) (Nat.le_of_ble_eq_true rfl) hrm (dq DL_law7 45 rfl) rfl rfl ?_
  exact y_icmp_eq (tgt := 1299) C (dq DL_law7 46 rfl) (by decide) (fun _ => y_pc 1299 rfl k) (fun hc => absurd rfl hc)
set_option maxHeartbeats 1000000 in
theorem law_18 {G : Gt} {l : Launch} {E EF EM : Ev} {cs : Nat × Nat} {b L ob : Nat} {xs : Nat → Int32} {fo : Nat → Int64} {x4 : Int32} {mF mM : Mm} (hF1 : EF.1 = E.1) (hF2 : EF.2.1 = E.2.1) (hM1 : EM.1 = E.1) (hM2 : EM.2.1 = E.2.1) (C : Cx G E cL_law 7 RL (some .boolean) 15 564) (hX : Sx G b L xs) (hrm : Rm G cs.1 cs.2) (hi1 : vp_in (x4 + 1) L) {v : Int32} {mF1 : Mm} {mM1 : Mm} (hF : fX7_cycle SX7 mF 0 (xs (x4 + 1).toNatClampNeg) = some (v, mF1)) (hM : fX8_cycle SX8 mM 0 (xs (x4 + 1).toNatClampNeg) = some (v, mM1)) (k : WG G l E cs (LWd E EF EM ob fo mF1 mM1) 1299 [(0, .ref b), (1, .ref (EF.2.2 0)), (2, .ref (EM.2.2 0)), (3, .ref ob), (4, .int x4)] []) : WG G l E cs (LWd E EF EM ob fo mF mM) 821 [(0, .ref b), (1, .ref (EF.2.2 0)), (2, .ref (EM.2.2 0)), (3, .ref ob), (4, .int x4)] [] := by
  refine y_aload_n C (dq DL_law7 49 rfl) rfl 1 rfl ?_
  refine y_aload_n C (dq DL_law7 50 rfl) rfl 0 rfl ?_
  refine y_iload C (dq DL_law7 51 rfl) 4 rfl ?_
  refine y_pc 825 rfl ?_
  refine y_iconst (v := 1) C (dq DL_law7 52 rfl) (by decide) ?_
  refine y_iadd C (dq DL_law7 53 rfl) ?_
  refine y_sld C (dq DL_law7 54 rfl) hX hi1 ?_
  refine l_callF (n := 1) (As := [.int (xs (x4 + 1).toNatClampNeg)]) (rest := []) hF1 hF2 C (mX7_cycle hF) (T := TX7) (N := 12) rfl (gmem 565 (by decide +kernel) rfl) (gmem 566 (by decide +kernel) rfl) (gmem 567 (by decide +kernel) rfl) (gmem 1 (by decide +kernel) rfl) (gmem 568 (by decide +kernel) rfl) (by decide +kernel) rfl (by decide) (by decide) (Nat.le_of_ble_eq_true rfl) hrm (dq DL_law7 55 rfl) rfl rfl ?_
  refine y_pc 831 rfl ?_
  refine y_aload_n C (dq DL_law7 56 rfl) rfl 2 rfl ?_
  refine y_aload_n C (dq DL_law7 57 rfl) rfl 0 rfl ?_
  refine y_iload C (dq DL_law7 58 rfl) 4 rfl ?_
  refine y_iconst (v := 1) C (dq DL_law7 59 rfl) (by decide) ?_
  refine y_pc 836 rfl ?_
  refine y_iadd C (dq DL_law8 0 rfl) ?_
  refine y_sld C (dq DL_law8 1 rfl) hX hi1 ?_
  refine l_callM (n := 1) (As := [.int (xs (x4 + 1).toNatClampNeg)]) (rest := [.int v]) hM1 hM2 C (mX8_cycle hM) (T := TX8) (N := 49) rfl (gmem 1355 (by decide +kernel) rfl) (gmem 1356 (by decide +kernel) rfl) (gmem 1357 (by decide +kernel) rfl) (gmem 9 (by decide +kernel) rfl) (gmem 1358 (by decide +kernel) rfl) (by decide +kernel) rfl (by decide) (by decide) (Nat.le_of_ble_eq_true rfl) hrm (dq DL_law8 2 rfl) rfl rfl ?_
  exact y_icmp_eq (tgt := 1299) C (dq DL_law8 3 rfl) (by decide) (fun _ => y_pc 1299 rfl k) (fun hc => absurd rfl hc)
set_option maxHeartbeats 1000000 in
theorem law_19 {G : Gt} {l : Launch} {E EF EM : Ev} {cs : Nat × Nat} {b L ob : Nat} {xs : Nat → Int32} {fo : Nat → Int64} {x4 : Int32} {mF mM : Mm} (hF1 : EF.1 = E.1) (hF2 : EF.2.1 = E.2.1) (hM1 : EM.1 = E.1) (hM2 : EM.2.1 = E.2.1) (C : Cx G E cL_law 7 RL (some .boolean) 15 564) (hX : Sx G b L xs) (hrm : Rm G cs.1 cs.2) (hi1 : vp_in (x4 + 1) L) {v : Int32} {mF1 : Mm} {mM1 : Mm} (hF : fX7_witness SX7 mF 0 (xs (x4 + 1).toNatClampNeg) = some (v, mF1)) (hM : fX8_witness SX8 mM 0 (xs (x4 + 1).toNatClampNeg) = some (v, mM1)) (k : WG G l E cs (LWd E EF EM ob fo mF1 mM1) 1299 [(0, .ref b), (1, .ref (EF.2.2 0)), (2, .ref (EM.2.2 0)), (3, .ref ob), (4, .int x4)] []) : WG G l E cs (LWd E EF EM ob fo mF mM) 846 [(0, .ref b), (1, .ref (EF.2.2 0)), (2, .ref (EM.2.2 0)), (3, .ref ob), (4, .int x4)] [] := by
  refine y_aload_n C (dq DL_law8 6 rfl) rfl 1 rfl ?_
  refine y_aload_n C (dq DL_law8 7 rfl) rfl 0 rfl ?_
  refine y_iload C (dq DL_law8 8 rfl) 4 rfl ?_
  refine y_pc 850 rfl ?_
  refine y_iconst (v := 1) C (dq DL_law8 9 rfl) (by decide) ?_
  refine y_iadd C (dq DL_law8 10 rfl) ?_
  refine y_sld C (dq DL_law8 11 rfl) hX hi1 ?_
  refine l_callF (n := 1) (As := [.int (xs (x4 + 1).toNatClampNeg)]) (rest := []) hF1 hF2 C (mX7_witness hF) (T := TX7) (N := 12) rfl (gmem 593 (by decide +kernel) rfl) (gmem 594 (by decide +kernel) rfl) (gmem 595 (by decide +kernel) rfl) (gmem 1 (by decide +kernel) rfl) (gmem 596 (by decide +kernel) rfl) (by decide +kernel) rfl (by decide) (by decide) (Nat.le_of_ble_eq_true rfl) hrm (dq DL_law8 12 rfl) rfl rfl ?_
  refine y_pc 856 rfl ?_
  refine y_aload_n C (dq DL_law8 13 rfl) rfl 2 rfl ?_
  refine y_aload_n C (dq DL_law8 14 rfl) rfl 0 rfl ?_
  refine y_iload C (dq DL_law8 15 rfl) 4 rfl ?_
  refine y_iconst (v := 1) C (dq DL_law8 16 rfl) (by decide) ?_
  refine y_pc 861 rfl ?_
  refine y_iadd C (dq DL_law8 17 rfl) ?_
  refine y_sld C (dq DL_law8 18 rfl) hX hi1 ?_
  refine l_callM (n := 1) (As := [.int (xs (x4 + 1).toNatClampNeg)]) (rest := [.int v]) hM1 hM2 C (mX8_witness hM) (T := TX8) (N := 49) rfl (gmem 1363 (by decide +kernel) rfl) (gmem 1364 (by decide +kernel) rfl) (gmem 1365 (by decide +kernel) rfl) (gmem 9 (by decide +kernel) rfl) (gmem 1366 (by decide +kernel) rfl) (by decide +kernel) rfl (by decide) (by decide) (Nat.le_of_ble_eq_true rfl) hrm (dq DL_law8 19 rfl) rfl rfl ?_
  exact y_icmp_eq (tgt := 1299) C (dq DL_law8 20 rfl) (by decide) (fun _ => y_pc 1299 rfl k) (fun hc => absurd rfl hc)
set_option maxHeartbeats 1000000 in
theorem law_20 {G : Gt} {l : Launch} {E EF EM : Ev} {cs : Nat × Nat} {b L ob : Nat} {xs : Nat → Int32} {fo : Nat → Int64} {x4 : Int32} {mF mM : Mm} (hF1 : EF.1 = E.1) (hF2 : EF.2.1 = E.2.1) (hM1 : EM.1 = E.1) (hM2 : EM.2.1 = E.2.1) (C : Cx G E cL_law 7 RL (some .boolean) 15 564) (hX : Sx G b L xs) (hrm : Rm G cs.1 cs.2) (hi1 : vp_in (x4 + 1) L) {v : Int32} {mF1 : Mm} {mM1 : Mm} (hF : fX7_inCycles SX7 mF 0 (xs (x4 + 1).toNatClampNeg) = some (v, mF1)) (hM : fX8_inCycles SX8 mM 0 (xs (x4 + 1).toNatClampNeg) = some (v, mM1)) (k : WG G l E cs (LWd E EF EM ob fo mF1 mM1) 1299 [(0, .ref b), (1, .ref (EF.2.2 0)), (2, .ref (EM.2.2 0)), (3, .ref ob), (4, .int x4)] []) : WG G l E cs (LWd E EF EM ob fo mF mM) 871 [(0, .ref b), (1, .ref (EF.2.2 0)), (2, .ref (EM.2.2 0)), (3, .ref ob), (4, .int x4)] [] := by
  refine y_aload_n C (dq DL_law8 23 rfl) rfl 1 rfl ?_
  refine y_aload_n C (dq DL_law8 24 rfl) rfl 0 rfl ?_
  refine y_iload C (dq DL_law8 25 rfl) 4 rfl ?_
  refine y_pc 875 rfl ?_
  refine y_iconst (v := 1) C (dq DL_law8 26 rfl) (by decide) ?_
  refine y_iadd C (dq DL_law8 27 rfl) ?_
  refine y_sld C (dq DL_law8 28 rfl) hX hi1 ?_
  refine l_callF (n := 1) (As := [.int (xs (x4 + 1).toNatClampNeg)]) (rest := []) hF1 hF2 C (mX7_inCycles hF) (T := TX7) (N := 12) rfl (gmem 601 (by decide +kernel) rfl) (gmem 602 (by decide +kernel) rfl) (gmem 603 (by decide +kernel) rfl) (gmem 1 (by decide +kernel) rfl) (gmem 604 (by decide +kernel) rfl) (by decide +kernel) rfl (by decide) (by decide) (Nat.le_of_ble_eq_true rfl) hrm (dq DL_law8 29 rfl) rfl rfl ?_
  refine y_pc 881 rfl ?_
  refine y_aload_n C (dq DL_law8 30 rfl) rfl 2 rfl ?_
  refine y_aload_n C (dq DL_law8 31 rfl) rfl 0 rfl ?_
  refine y_iload C (dq DL_law8 32 rfl) 4 rfl ?_
  refine y_iconst (v := 1) C (dq DL_law8 33 rfl) (by decide) ?_
  refine y_pc 886 rfl ?_
  refine y_iadd C (dq DL_law8 34 rfl) ?_
  refine y_sld C (dq DL_law8 35 rfl) hX hi1 ?_
  refine l_callM (n := 1) (As := [.int (xs (x4 + 1).toNatClampNeg)]) (rest := [.int v]) hM1 hM2 C (mX8_inCycles hM) (T := TX8) (N := 49) rfl (gmem 1343 (by decide +kernel) rfl) (gmem 1344 (by decide +kernel) rfl) (gmem 1345 (by decide +kernel) rfl) (gmem 9 (by decide +kernel) rfl) (gmem 1346 (by decide +kernel) rfl) (by decide +kernel) rfl (by decide) (by decide) (Nat.le_of_ble_eq_true rfl) hrm (dq DL_law8 36 rfl) rfl rfl ?_
  exact y_icmp_eq (tgt := 1299) C (dq DL_law8 37 rfl) (by decide) (fun _ => y_pc 1299 rfl k) (fun hc => absurd rfl hc)
theorem l_bool909 {G : Gt} {l : Launch} {E : Ev} {cs : Nat × Nat} {w : va_W} {b L : Nat} {xs : Nat → Int32} {lv : List (Nat × Value)} {st : List Value} {x z : Int32} (hz : (x = 0 ∧ z = 0) ∨ (¬ x = 0 ∧ z = 1)) (C : Cx G E cL_law 7 RL (some .boolean) 15 564) (hX : Sx G b L xs) (k : WG G l E cs w 917 lv (.int z :: st)) : WG G l E cs w 909 lv (.int x :: st) := by
  refine y_if_eq (tgt := 916) C (dq DL_law8 51 rfl) (by decide) (fun hc => ?_) (fun hc => ?_)
  · rcases hz with ⟨_, rfl⟩ | ⟨hn, _⟩
    · exact y_iconst (v := 0) C (dq DL_law8 54 rfl) (by decide) k
    · exact absurd hc hn
  · rcases hz with ⟨hn, _⟩ | ⟨_, rfl⟩
    · exact absurd hn hc
    · refine y_iconst (v := 1) C (dq DL_law8 52 rfl) (by decide) ?_
      exact y_goto (tgt := 917) C (dq DL_law8 53 rfl) (by decide) k
theorem l_bool933 {G : Gt} {l : Launch} {E : Ev} {cs : Nat × Nat} {w : va_W} {b L : Nat} {xs : Nat → Int32} {lv : List (Nat × Value)} {st : List Value} {x z : Int32} (hz : (x = 0 ∧ z = 0) ∨ (¬ x = 0 ∧ z = 1)) (C : Cx G E cL_law 7 RL (some .boolean) 15 564) (hX : Sx G b L xs) (k : WG G l E cs w 941 lv (.int z :: st)) : WG G l E cs w 933 lv (.int x :: st) := by
  refine y_if_eq (tgt := 940) C (dq DL_law9 7 rfl) (by decide) (fun hc => ?_) (fun hc => ?_)
  · rcases hz with ⟨_, rfl⟩ | ⟨hn, _⟩
    · exact y_iconst (v := 0) C (dq DL_law9 10 rfl) (by decide) k
    · exact absurd hc hn
  · rcases hz with ⟨hn, _⟩ | ⟨_, rfl⟩
    · exact absurd hn hc
    · refine y_iconst (v := 1) C (dq DL_law9 8 rfl) (by decide) ?_
      exact y_goto (tgt := 941) C (dq DL_law9 9 rfl) (by decide) k
set_option maxHeartbeats 1000000 in
theorem law_21 {G : Gt} {l : Launch} {E EF EM : Ev} {cs : Nat × Nat} {b L ob : Nat} {xs : Nat → Int32} {fo : Nat → Int64} {x4 : Int32} {mF mM : Mm} (hF1 : EF.1 = E.1) (hF2 : EF.2.1 = E.2.1) (hM1 : EM.1 = E.1) (hM2 : EM.2.1 = E.2.1) (C : Cx G E cL_law 7 RL (some .boolean) 15 564) (hX : Sx G b L xs) (hrm : Rm G cs.1 cs.2) (hi1 : vp_in (x4 + 1) L) (hi2 : vp_in (x4 + 2) L) {v : Int64} {mF1 : Mm} {mM1 : Mm} {z : Int32} (hz : ((xs (x4 + 2).toNatClampNeg) = 0 ∧ z = 0) ∨ (¬ (xs (x4 + 2).toNatClampNeg) = 0 ∧ z = 1)) (hF : fX7_fair SX7 mF 0 (xs (x4 + 1).toNatClampNeg) z = some (v, mF1)) (hM : fX8_fair SX8 mM 0 (xs (x4 + 1).toNatClampNeg) z = some (v, mM1)) (k : WG G l E cs (LWd E EF EM ob fo mF1 mM1) 1299 [(0, .ref b), (1, .ref (EF.2.2 0)), (2, .ref (EM.2.2 0)), (3, .ref ob), (4, .int x4)] []) : WG G l E cs (LWd E EF EM ob fo mF mM) 896 [(0, .ref b), (1, .ref (EF.2.2 0)), (2, .ref (EM.2.2 0)), (3, .ref ob), (4, .int x4)] [] := by
  refine y_aload_n C (dq DL_law8 40 rfl) rfl 1 rfl ?_
  refine y_aload_n C (dq DL_law8 41 rfl) rfl 0 rfl ?_
  refine y_iload C (dq DL_law8 42 rfl) 4 rfl ?_
  refine y_pc 900 rfl ?_
  refine y_iconst (v := 1) C (dq DL_law8 43 rfl) (by decide) ?_
  refine y_iadd C (dq DL_law8 44 rfl) ?_
  refine y_sld C (dq DL_law8 45 rfl) hX hi1 ?_
  refine y_aload_n C (dq DL_law8 46 rfl) rfl 0 rfl ?_
  refine y_pc 904 rfl ?_
  refine y_iload C (dq DL_law8 47 rfl) 4 rfl ?_
  refine y_iconst (v := 2) C (dq DL_law8 48 rfl) (by decide) ?_
  refine y_iadd C (dq DL_law8 49 rfl) ?_
  refine y_sld C (dq DL_law8 50 rfl) hX hi2 ?_
  refine y_pc 909 rfl ?_
  refine l_bool909 hz C hX ?_
  refine l_callF (n := 2) (As := [.int (xs (x4 + 1).toNatClampNeg), .int z]) (rest := []) hF1 hF2 C (mX7_fair hF) (T := TX7) (N := 12) rfl (gmem 610 (by decide +kernel) rfl) (gmem 611 (by decide +kernel) rfl) (gmem 612 (by decide +kernel) rfl) (gmem 1 (by decide +kernel) rfl) (gmem 613 (by decide +kernel) rfl) (by decide +kernel) rfl (by decide) (by decide) (Nat.le_of_ble_eq_true rfl) hrm (dq DL_law8 55 rfl) rfl rfl ?_
  refine y_aload_n C (dq DL_law8 56 rfl) rfl 2 rfl ?_
  refine y_aload_n C (dq DL_law8 57 rfl) rfl 0 rfl ?_
  refine y_pc 922 rfl ?_
  refine y_iload C (dq DL_law8 58 rfl) 4 rfl ?_
  refine y_iconst (v := 1) C (dq DL_law8 59 rfl) (by decide) ?_
  refine y_iadd C (dq DL_law9 0 rfl) ?_
  refine y_sld C (dq DL_law9 1 rfl) hX hi1 ?_
  refine y_pc 927 rfl ?_
  refine y_aload_n C (dq DL_law9 2 rfl) rfl 0 rfl ?_
  refine y_iload C (dq DL_law9 3 rfl) 4 rfl ?_
  refine y_iconst (v := 2) C (dq DL_law9 4 rfl) (by decide) ?_
  refine y_iadd C (dq DL_law9 5 rfl) ?_
  refine y_pc 932 rfl ?_
  refine y_sld C (dq DL_law9 6 rfl) hX hi2 ?_
  refine l_bool933 hz C hX ?_
  refine l_callM (n := 2) (As := [.int (xs (x4 + 1).toNatClampNeg), .int z]) (rest := [.long v]) hM1 hM2 C (mX8_fair hM) (T := TX8) (N := 49) rfl (gmem 1367 (by decide +kernel) rfl) (gmem 1368 (by decide +kernel) rfl) (gmem 1369 (by decide +kernel) rfl) (gmem 9 (by decide +kernel) rfl) (gmem 1370 (by decide +kernel) rfl) (by decide +kernel) rfl (by decide) (by decide) (Nat.le_of_ble_eq_true rfl) hrm (dq DL_law9 11 rfl) rfl rfl ?_
  refine y_lcmp C (dq DL_law9 12 rfl) ?_
  exact y_if_eq (tgt := 1299) C (dq DL_law9 13 rfl) (by decide) (fun _ => k) (fun hc => absurd (by simp [lg_cmp]) hc)
set_option maxHeartbeats 1000000 in
theorem law_22 {G : Gt} {l : Launch} {E EF EM : Ev} {cs : Nat × Nat} {b L ob : Nat} {xs : Nat → Int32} {fo : Nat → Int64} {x4 : Int32} {mF mM : Mm} (hF1 : EF.1 = E.1) (hF2 : EF.2.1 = E.2.1) (hM1 : EM.1 = E.1) (hM2 : EM.2.1 = E.2.1) (C : Cx G E cL_law 7 RL (some .boolean) 15 564) (hX : Sx G b L xs) (hrm : Rm G cs.1 cs.2)  {v : Int32} {mF1 : Mm} {mM1 : Mm} (hF : fX7_full SX7 mF 0  = some (v, mF1)) (hM : fX8_full SX8 mM 0  = some (v, mM1)) (k : WG G l E cs (LWd E EF EM ob fo mF1 mM1) 1299 [(0, .ref b), (1, .ref (EF.2.2 0)), (2, .ref (EM.2.2 0)), (3, .ref ob), (4, .int x4)] []) : WG G l E cs (LWd E EF EM ob fo mF mM) 950 [(0, .ref b), (1, .ref (EF.2.2 0)), (2, .ref (EM.2.2 0)), (3, .ref ob), (4, .int x4)] [] := by
  refine y_aload_n C (dq DL_law9 16 rfl) rfl 1 rfl ?_
  refine l_callF (n := 0) (As := []) (rest := []) hF1 hF2 C (mX7_full hF) (T := TX7) (N := 12) rfl (gmem 644 (by decide +kernel) rfl) (gmem 645 (by decide +kernel) rfl) (gmem 646 (by decide +kernel) rfl) (gmem 1 (by decide +kernel) rfl) (gmem 647 (by decide +kernel) rfl) (by decide +kernel) rfl (by decide) (by decide) (Nat.le_of_ble_eq_true rfl) hrm (dq DL_law9 17 rfl) rfl rfl ?_
  refine y_aload_n C (dq DL_law9 18 rfl) rfl 2 rfl ?_
  refine y_pc 955 rfl ?_
  refine l_callM (n := 0) (As := []) (rest := [.int v]) hM1 hM2 C (mX8_full hM) (T := TX8) (N := 49) rfl (gmem 1391 (by decide +kernel) rfl) (gmem 1392 (by decide +kernel) rfl) (gmem 1393 (by decide +kernel) rfl) (gmem 9 (by decide +kernel) rfl) (gmem 1394 (by decide +kernel) rfl) (by decide +kernel) rfl (by decide) (by decide) (Nat.le_of_ble_eq_true rfl) hrm (dq DL_law9 19 rfl) rfl rfl ?_
  exact y_icmp_eq (tgt := 1299) C (dq DL_law9 20 rfl) (by decide) (fun _ => y_pc 1299 rfl k) (fun hc => absurd rfl hc)
set_option maxHeartbeats 1000000 in
theorem law_23 {G : Gt} {l : Launch} {E EF EM : Ev} {cs : Nat × Nat} {b L ob : Nat} {xs : Nat → Int32} {fo : Nat → Int64} {x4 : Int32} {mF mM : Mm} (hF1 : EF.1 = E.1) (hF2 : EF.2.1 = E.2.1) (hM1 : EM.1 = E.1) (hM2 : EM.2.1 = E.2.1) (C : Cx G E cL_law 7 RL (some .boolean) 15 564) (hX : Sx G b L xs) (hrm : Rm G cs.1 cs.2) (hi1 : vp_in (x4 + 1) L) (hi2 : vp_in (x4 + 2) L) (hi3 : vp_in (x4 + 3) L) {v : Int32} {mF1 : Mm} {mM1 : Mm} (hF : fX7_ahead SX7 mF 0 (xs (x4 + 1).toNatClampNeg) (xs (x4 + 2).toNatClampNeg) (xs (x4 + 3).toNatClampNeg) = some (v, mF1)) (hM : fX8_ahead SX8 mM 0 (xs (x4 + 1).toNatClampNeg) (xs (x4 + 2).toNatClampNeg) (xs (x4 + 3).toNatClampNeg) = some (v, mM1)) (k : WG G l E cs (LWd E EF EM ob fo mF1 mM1) 1299 [(0, .ref b), (1, .ref (EF.2.2 0)), (2, .ref (EM.2.2 0)), (3, .ref ob), (4, .int x4)] []) : WG G l E cs (LWd E EF EM ob fo mF mM) 963 [(0, .ref b), (1, .ref (EF.2.2 0)), (2, .ref (EM.2.2 0)), (3, .ref ob), (4, .int x4)] [] := by
  refine y_aload_n C (dq DL_law9 23 rfl) rfl 1 rfl ?_
  refine y_aload_n C (dq DL_law9 24 rfl) rfl 0 rfl ?_
  refine y_iload C (dq DL_law9 25 rfl) 4 rfl ?_
  refine y_pc 967 rfl ?_
  refine y_iconst (v := 1) C (dq DL_law9 26 rfl) (by decide) ?_
  refine y_iadd C (dq DL_law9 27 rfl) ?_
  refine y_sld C (dq DL_law9 28 rfl) hX hi1 ?_
  refine y_aload_n C (dq DL_law9 29 rfl) rfl 0 rfl ?_
  refine y_pc 971 rfl ?_
  refine y_iload C (dq DL_law9 30 rfl) 4 rfl ?_
  refine y_iconst (v := 2) C (dq DL_law9 31 rfl) (by decide) ?_
  refine y_iadd C (dq DL_law9 32 rfl) ?_
  refine y_sld C (dq DL_law9 33 rfl) hX hi2 ?_
  refine y_pc 976 rfl ?_
  refine y_aload_n C (dq DL_law9 34 rfl) rfl 0 rfl ?_
  refine y_iload C (dq DL_law9 35 rfl) 4 rfl ?_
  refine y_iconst (v := 3) C (dq DL_law9 36 rfl) (by decide) ?_
  refine y_iadd C (dq DL_law9 37 rfl) ?_
  refine y_pc 981 rfl ?_
  refine y_sld C (dq DL_law9 38 rfl) hX hi3 ?_
  refine l_callF (n := 3) (As := [.int (xs (x4 + 1).toNatClampNeg), .int (xs (x4 + 2).toNatClampNeg), .int (xs (x4 + 3).toNatClampNeg)]) (rest := []) hF1 hF2 C (mX7_ahead hF) (T := TX7) (N := 12) rfl (gmem 652 (by decide +kernel) rfl) (gmem 653 (by decide +kernel) rfl) (gmem 654 (by decide +kernel) rfl) (gmem 1 (by decide +kernel) rfl) (gmem 655 (by decide +kernel) rfl) (by decide +kernel) rfl (by decide) (by decide) (Nat.le_of_ble_eq_true rfl) hrm (dq DL_law9 39 rfl) rfl rfl ?_
  refine y_aload_n C (dq DL_law9 40 rfl) rfl 2 rfl ?_
  refine y_aload_n C (dq DL_law9 41 rfl) rfl 0 rfl ?_
  refine y_pc 987 rfl ?_
  refine y_iload C (dq DL_law9 42 rfl) 4 rfl ?_
  refine y_iconst (v := 1) C (dq DL_law9 43 rfl) (by decide) ?_
  refine y_iadd C (dq DL_law9 44 rfl) ?_
  refine y_sld C (dq DL_law9 45 rfl) hX hi1 ?_
  refine y_pc 992 rfl ?_
  refine y_aload_n C (dq DL_law9 46 rfl) rfl 0 rfl ?_
  refine y_iload C (dq DL_law9 47 rfl) 4 rfl ?_
  refine y_iconst (v := 2) C (dq DL_law9 48 rfl) (by decide) ?_
  refine y_iadd C (dq DL_law9 49 rfl) ?_
  refine y_pc 997 rfl ?_
  refine y_sld C (dq DL_law9 50 rfl) hX hi2 ?_
  refine y_aload_n C (dq DL_law9 51 rfl) rfl 0 rfl ?_
  refine y_iload C (dq DL_law9 52 rfl) 4 rfl ?_
  refine y_iconst (v := 3) C (dq DL_law9 53 rfl) (by decide) ?_
  refine y_pc 1002 rfl ?_
  refine y_iadd C (dq DL_law9 54 rfl) ?_
  refine y_sld C (dq DL_law9 55 rfl) hX hi3 ?_
  refine l_callM (n := 3) (As := [.int (xs (x4 + 1).toNatClampNeg), .int (xs (x4 + 2).toNatClampNeg), .int (xs (x4 + 3).toNatClampNeg)]) (rest := [.int v]) hM1 hM2 C (mX8_ahead hM) (T := TX8) (N := 49) rfl (gmem 1395 (by decide +kernel) rfl) (gmem 1396 (by decide +kernel) rfl) (gmem 1397 (by decide +kernel) rfl) (gmem 9 (by decide +kernel) rfl) (gmem 1398 (by decide +kernel) rfl) (by decide +kernel) rfl (by decide) (by decide) (Nat.le_of_ble_eq_true rfl) hrm (dq DL_law9 56 rfl) rfl rfl ?_
  exact y_icmp_eq (tgt := 1299) C (dq DL_law9 57 rfl) (by decide) (fun _ => y_pc 1299 rfl k) (fun hc => absurd rfl hc)
set_option maxHeartbeats 1000000 in
theorem law_24 {G : Gt} {l : Launch} {E EF EM : Ev} {cs : Nat × Nat} {b L ob : Nat} {xs : Nat → Int32} {fo : Nat → Int64} {x4 : Int32} {mF mM : Mm} (hF1 : EF.1 = E.1) (hF2 : EF.2.1 = E.2.1) (hM1 : EM.1 = E.1) (hM2 : EM.2.1 = E.2.1) (C : Cx G E cL_law 7 RL (some .boolean) 15 564) (hX : Sx G b L xs) (hrm : Rm G cs.1 cs.2) (hi1 : vp_in (x4 + 1) L) (hi2 : vp_in (x4 + 2) L) (hi3 : vp_in (x4 + 3) L) {v : Int32} {mF1 : Mm} {mM1 : Mm} (hF : fX7_flows SX7 mF 0 (xs (x4 + 1).toNatClampNeg) (xs (x4 + 2).toNatClampNeg) (xs (x4 + 3).toNatClampNeg) = some (v, mF1)) (hM : fX8_flows_ SX8 mM 0 (xs (x4 + 1).toNatClampNeg) (xs (x4 + 2).toNatClampNeg) (xs (x4 + 3).toNatClampNeg) = some (v, mM1)) (k : WG G l E cs (LWd E EF EM ob fo mF1 mM1) 1299 [(0, .ref b), (1, .ref (EF.2.2 0)), (2, .ref (EM.2.2 0)), (3, .ref ob), (4, .int x4)] []) : WG G l E cs (LWd E EF EM ob fo mF mM) 1012 [(0, .ref b), (1, .ref (EF.2.2 0)), (2, .ref (EM.2.2 0)), (3, .ref ob), (4, .int x4)] [] := by
  refine y_aload_n C (dq DL_law10 0 rfl) rfl 1 rfl ?_
  refine y_aload_n C (dq DL_law10 1 rfl) rfl 0 rfl ?_
  refine y_iload C (dq DL_law10 2 rfl) 4 rfl ?_
  refine y_pc 1016 rfl ?_
  refine y_iconst (v := 1) C (dq DL_law10 3 rfl) (by decide) ?_
  refine y_iadd C (dq DL_law10 4 rfl) ?_
  refine y_sld C (dq DL_law10 5 rfl) hX hi1 ?_
  refine y_aload_n C (dq DL_law10 6 rfl) rfl 0 rfl ?_
  refine y_pc 1020 rfl ?_
  refine y_iload C (dq DL_law10 7 rfl) 4 rfl ?_
  refine y_iconst (v := 2) C (dq DL_law10 8 rfl) (by decide) ?_
  refine y_iadd C (dq DL_law10 9 rfl) ?_
  refine y_sld C (dq DL_law10 10 rfl) hX hi2 ?_
  refine y_pc 1025 rfl ?_
  refine y_aload_n C (dq DL_law10 11 rfl) rfl 0 rfl ?_
  refine y_iload C (dq DL_law10 12 rfl) 4 rfl ?_
  refine y_iconst (v := 3) C (dq DL_law10 13 rfl) (by decide) ?_
  refine y_iadd C (dq DL_law10 14 rfl) ?_
  refine y_pc 1030 rfl ?_
  refine y_sld C (dq DL_law10 15 rfl) hX hi3 ?_
  refine l_callF (n := 3) (As := [.int (xs (x4 + 1).toNatClampNeg), .int (xs (x4 + 2).toNatClampNeg), .int (xs (x4 + 3).toNatClampNeg)]) (rest := []) hF1 hF2 C (mX7_flows hF) (T := TX7) (N := 12) rfl (gmem 661 (by decide +kernel) rfl) (gmem 662 (by decide +kernel) rfl) (gmem 663 (by decide +kernel) rfl) (gmem 1 (by decide +kernel) rfl) (gmem 664 (by decide +kernel) rfl) (by decide +kernel) rfl (by decide) (by decide) (Nat.le_of_ble_eq_true rfl) hrm (dq DL_law10 16 rfl) rfl rfl ?_
  refine y_aload_n C (dq DL_law10 17 rfl) rfl 2 rfl ?_
  refine y_aload_n C (dq DL_law10 18 rfl) rfl 0 rfl ?_
  refine y_pc 1036 rfl ?_
  refine y_iload C (dq DL_law10 19 rfl) 4 rfl ?_
  refine y_iconst (v := 1) C (dq DL_law10 20 rfl) (by decide) ?_
  refine y_iadd C (dq DL_law10 21 rfl) ?_
  refine y_sld C (dq DL_law10 22 rfl) hX hi1 ?_
  refine y_pc 1041 rfl ?_
  refine y_aload_n C (dq DL_law10 23 rfl) rfl 0 rfl ?_
  refine y_iload C (dq DL_law10 24 rfl) 4 rfl ?_
  refine y_iconst (v := 2) C (dq DL_law10 25 rfl) (by decide) ?_
  refine y_iadd C (dq DL_law10 26 rfl) ?_
  refine y_pc 1046 rfl ?_
  refine y_sld C (dq DL_law10 27 rfl) hX hi2 ?_
  refine y_aload_n C (dq DL_law10 28 rfl) rfl 0 rfl ?_
  refine y_iload C (dq DL_law10 29 rfl) 4 rfl ?_
  refine y_iconst (v := 3) C (dq DL_law10 30 rfl) (by decide) ?_
  refine y_pc 1051 rfl ?_
  refine y_iadd C (dq DL_law10 31 rfl) ?_
  refine y_sld C (dq DL_law10 32 rfl) hX hi3 ?_
  refine l_callM (n := 3) (As := [.int (xs (x4 + 1).toNatClampNeg), .int (xs (x4 + 2).toNatClampNeg), .int (xs (x4 + 3).toNatClampNeg)]) (rest := [.int v]) hM1 hM2 C (mX8_flows_ hM) (T := TX8) (N := 49) rfl (gmem 1402 (by decide +kernel) rfl) (gmem 1403 (by decide +kernel) rfl) (gmem 1404 (by decide +kernel) rfl) (gmem 9 (by decide +kernel) rfl) (gmem 1405 (by decide +kernel) rfl) (by decide +kernel) rfl (by decide) (by decide) (Nat.le_of_ble_eq_true rfl) hrm (dq DL_law10 33 rfl) rfl rfl ?_
  exact y_icmp_eq (tgt := 1299) C (dq DL_law10 34 rfl) (by decide) (fun _ => y_pc 1299 rfl k) (fun hc => absurd rfl hc)
set_option maxHeartbeats 1000000 in
theorem law_25 {G : Gt} {l : Launch} {E EF EM : Ev} {cs : Nat × Nat} {b L ob : Nat} {xs : Nat → Int32} {fo : Nat → Int64} {x4 : Int32} {mF mM : Mm} (hF1 : EF.1 = E.1) (hF2 : EF.2.1 = E.2.1) (hM1 : EM.1 = E.1) (hM2 : EM.2.1 = E.2.1) (C : Cx G E cL_law 7 RL (some .boolean) 15 564) (hX : Sx G b L xs) (hrm : Rm G cs.1 cs.2)  {v : Int32} {mF1 : Mm} {mM1 : Mm} (hF : fX7_stalls SX7 mF 0  = some (v, mF1)) (hM : fX8_stalls SX8 mM 0  = some (v, mM1)) (k : WG G l E cs (LWd E EF EM ob fo mF1 mM1) 1299 [(0, .ref b), (1, .ref (EF.2.2 0)), (2, .ref (EM.2.2 0)), (3, .ref ob), (4, .int x4)] []) : WG G l E cs (LWd E EF EM ob fo mF mM) 1061 [(0, .ref b), (1, .ref (EF.2.2 0)), (2, .ref (EM.2.2 0)), (3, .ref ob), (4, .int x4)] [] := by
  refine y_aload_n C (dq DL_law10 37 rfl) rfl 1 rfl ?_
  refine l_callF (n := 0) (As := []) (rest := []) hF1 hF2 C (mX7_stalls hF) (T := TX7) (N := 12) rfl (gmem 665 (by decide +kernel) rfl) (gmem 666 (by decide +kernel) rfl) (gmem 667 (by decide +kernel) rfl) (gmem 1 (by decide +kernel) rfl) (gmem 668 (by decide +kernel) rfl) (by decide +kernel) rfl (by decide) (by decide) (Nat.le_of_ble_eq_true rfl) hrm (dq DL_law10 38 rfl) rfl rfl ?_
  refine y_aload_n C (dq DL_law10 39 rfl) rfl 2 rfl ?_
  refine y_pc 1066 rfl ?_
  refine l_callM (n := 0) (As := []) (rest := [.int v]) hM1 hM2 C (mX8_stalls hM) (T := TX8) (N := 49) rfl (gmem 1406 (by decide +kernel) rfl) (gmem 1407 (by decide +kernel) rfl) (gmem 1408 (by decide +kernel) rfl) (gmem 9 (by decide +kernel) rfl) (gmem 1409 (by decide +kernel) rfl) (by decide +kernel) rfl (by decide) (by decide) (Nat.le_of_ble_eq_true rfl) hrm (dq DL_law10 40 rfl) rfl rfl ?_
  exact y_icmp_eq (tgt := 1299) C (dq DL_law10 41 rfl) (by decide) (fun _ => y_pc 1299 rfl k) (fun hc => absurd rfl hc)
set_option maxHeartbeats 1000000 in
theorem law_26 {G : Gt} {l : Launch} {E EF EM : Ev} {cs : Nat × Nat} {b L ob : Nat} {xs : Nat → Int32} {fo : Nat → Int64} {x4 : Int32} {mF mM : Mm} (hF1 : EF.1 = E.1) (hF2 : EF.2.1 = E.2.1) (hM1 : EM.1 = E.1) (hM2 : EM.2.1 = E.2.1) (C : Cx G E cL_law 7 RL (some .boolean) 15 564) (hX : Sx G b L xs) (hrm : Rm G cs.1 cs.2)  {v : Int32} {mF1 : Mm} {mM1 : Mm} (hF : fX7_quiet SX7 mF 0  = some (v, mF1)) (hM : fX8_quiet SX8 mM 0  = some (v, mM1)) (k : WG G l E cs (LWd E EF EM ob fo mF1 mM1) 1299 [(0, .ref b), (1, .ref (EF.2.2 0)), (2, .ref (EM.2.2 0)), (3, .ref ob), (4, .int x4)] []) : WG G l E cs (LWd E EF EM ob fo mF mM) 1074 [(0, .ref b), (1, .ref (EF.2.2 0)), (2, .ref (EM.2.2 0)), (3, .ref ob), (4, .int x4)] [] := by
  refine y_aload_n C (dq DL_law10 44 rfl) rfl 1 rfl ?_
  refine l_callF (n := 0) (As := []) (rest := []) hF1 hF2 C (mX7_quiet hF) (T := TX7) (N := 12) rfl (gmem 669 (by decide +kernel) rfl) (gmem 670 (by decide +kernel) rfl) (gmem 671 (by decide +kernel) rfl) (gmem 1 (by decide +kernel) rfl) (gmem 672 (by decide +kernel) rfl) (by decide +kernel) rfl (by decide) (by decide) (Nat.le_of_ble_eq_true rfl) hrm (dq DL_law10 45 rfl) rfl rfl ?_
  refine y_aload_n C (dq DL_law10 46 rfl) rfl 2 rfl ?_
  refine y_pc 1079 rfl ?_
  refine l_callM (n := 0) (As := []) (rest := [.int v]) hM1 hM2 C (mX8_quiet hM) (T := TX8) (N := 49) rfl (gmem 1414 (by decide +kernel) rfl) (gmem 1415 (by decide +kernel) rfl) (gmem 1416 (by decide +kernel) rfl) (gmem 9 (by decide +kernel) rfl) (gmem 1417 (by decide +kernel) rfl) (by decide +kernel) rfl (by decide) (by decide) (Nat.le_of_ble_eq_true rfl) hrm (dq DL_law10 47 rfl) rfl rfl ?_
  exact y_icmp_eq (tgt := 1299) C (dq DL_law10 48 rfl) (by decide) (fun _ => y_pc 1299 rfl k) (fun hc => absurd rfl hc)
set_option maxHeartbeats 1000000 in
theorem law_27 {G : Gt} {l : Launch} {E EF EM : Ev} {cs : Nat × Nat} {b L ob : Nat} {xs : Nat → Int32} {fo : Nat → Int64} {x4 : Int32} {mF mM : Mm} (hF1 : EF.1 = E.1) (hF2 : EF.2.1 = E.2.1) (hM1 : EM.1 = E.1) (hM2 : EM.2.1 = E.2.1) (C : Cx G E cL_law 7 RL (some .boolean) 15 564) (hX : Sx G b L xs) (hrm : Rm G cs.1 cs.2) (hi1 : vp_in (x4 + 1) L) {v : Int32} {mF1 : Mm} {mM1 : Mm} (hF : fX7_worst SX7 mF 0 (xs (x4 + 1).toNatClampNeg) = some (v, mF1)) (hM : fX8_worst SX8 mM 0 (xs (x4 + 1).toNatClampNeg) = some (v, mM1)) (k : WG G l E cs (LWd E EF EM ob fo mF1 mM1) 1299 [(0, .ref b), (1, .ref (EF.2.2 0)), (2, .ref (EM.2.2 0)), (3, .ref ob), (4, .int x4)] []) : WG G l E cs (LWd E EF EM ob fo mF mM) 1087 [(0, .ref b), (1, .ref (EF.2.2 0)), (2, .ref (EM.2.2 0)), (3, .ref ob), (4, .int x4)] [] := by
  refine y_aload_n C (dq DL_law10 51 rfl) rfl 1 rfl ?_
  refine y_aload_n C (dq DL_law10 52 rfl) rfl 0 rfl ?_
  refine y_iload C (dq DL_law10 53 rfl) 4 rfl ?_
  refine y_pc 1091 rfl ?_
  refine y_iconst (v := 1) C (dq DL_law10 54 rfl) (by decide) ?_
  refine y_iadd C (dq DL_law10 55 rfl) ?_
  refine y_sld C (dq DL_law10 56 rfl) hX hi1 ?_
  refine l_callF (n := 1) (As := [.int (xs (x4 + 1).toNatClampNeg)]) (rest := []) hF1 hF2 C (mX7_worst hF) (T := TX7) (N := 12) rfl (gmem 676 (by decide +kernel) rfl) (gmem 677 (by decide +kernel) rfl) (gmem 678 (by decide +kernel) rfl) (gmem 1 (by decide +kernel) rfl) (gmem 679 (by decide +kernel) rfl) (by decide +kernel) rfl (by decide) (by decide) (Nat.le_of_ble_eq_true rfl) hrm (dq DL_law10 57 rfl) rfl rfl ?_
  refine y_pc 1097 rfl ?_
  refine y_aload_n C (dq DL_law10 58 rfl) rfl 2 rfl ?_
  refine y_aload_n C (dq DL_law10 59 rfl) rfl 0 rfl ?_
  refine y_iload C (dq DL_law11 0 rfl) 4 rfl ?_
  refine y_iconst (v := 1) C (dq DL_law11 1 rfl) (by decide) ?_
  refine y_pc 1102 rfl ?_
  refine y_iadd C (dq DL_law11 2 rfl) ?_
  refine y_sld C (dq DL_law11 3 rfl) hX hi1 ?_
  refine l_callM (n := 1) (As := [.int (xs (x4 + 1).toNatClampNeg)]) (rest := [.int v]) hM1 hM2 C (mX8_worst hM) (T := TX8) (N := 49) rfl (gmem 1422 (by decide +kernel) rfl) (gmem 1423 (by decide +kernel) rfl) (gmem 1424 (by decide +kernel) rfl) (gmem 9 (by decide +kernel) rfl) (gmem 1425 (by decide +kernel) rfl) (by decide +kernel) rfl (by decide) (by decide) (Nat.le_of_ble_eq_true rfl) hrm (dq DL_law11 4 rfl) rfl rfl ?_
  exact y_icmp_eq (tgt := 1299) C (dq DL_law11 5 rfl) (by decide) (fun _ => y_pc 1299 rfl k) (fun hc => absurd rfl hc)
set_option maxHeartbeats 1000000 in
theorem law_28 {G : Gt} {l : Launch} {E EF EM : Ev} {cs : Nat × Nat} {b L ob : Nat} {xs : Nat → Int32} {fo : Nat → Int64} {x4 : Int32} {mF mM : Mm} (hF1 : EF.1 = E.1) (hF2 : EF.2.1 = E.2.1) (hM1 : EM.1 = E.1) (hM2 : EM.2.1 = E.2.1) (C : Cx G E cL_law 7 RL (some .boolean) 15 564) (hX : Sx G b L xs) (hrm : Rm G cs.1 cs.2) (hi1 : vp_in (x4 + 1) L) (hi2 : vp_in (x4 + 2) L) {v : Int32} {mF1 : Mm} {mM1 : Mm} (hF : fX7_leastSize SX7 mF 0 (xs (x4 + 1).toNatClampNeg) (xs (x4 + 2).toNatClampNeg) = some (v, mF1)) (hM : fX8_leastSize SX8 mM 0 (xs (x4 + 1).toNatClampNeg) (xs (x4 + 2).toNatClampNeg) = some (v, mM1)) (k : WG G l E cs (LWd E EF EM ob fo mF1 mM1) 1299 [(0, .ref b), (1, .ref (EF.2.2 0)), (2, .ref (EM.2.2 0)), (3, .ref ob), (4, .int x4)] []) : WG G l E cs (LWd E EF EM ob fo mF mM) 1112 [(0, .ref b), (1, .ref (EF.2.2 0)), (2, .ref (EM.2.2 0)), (3, .ref ob), (4, .int x4)] [] := by
  refine y_aload_n C (dq DL_law11 8 rfl) rfl 1 rfl ?_
  refine y_aload_n C (dq DL_law11 9 rfl) rfl 0 rfl ?_
  refine y_iload C (dq DL_law11 10 rfl) 4 rfl ?_
  refine y_pc 1116 rfl ?_
  refine y_iconst (v := 1) C (dq DL_law11 11 rfl) (by decide) ?_
  refine y_iadd C (dq DL_law11 12 rfl) ?_
  refine y_sld C (dq DL_law11 13 rfl) hX hi1 ?_
  refine y_aload_n C (dq DL_law11 14 rfl) rfl 0 rfl ?_
  refine y_pc 1120 rfl ?_
  refine y_iload C (dq DL_law11 15 rfl) 4 rfl ?_
  refine y_iconst (v := 2) C (dq DL_law11 16 rfl) (by decide) ?_
  refine y_iadd C (dq DL_law11 17 rfl) ?_
  refine y_sld C (dq DL_law11 18 rfl) hX hi2 ?_
  refine y_pc 1125 rfl ?_
  refine l_callF (n := 2) (As := [.int (xs (x4 + 1).toNatClampNeg), .int (xs (x4 + 2).toNatClampNeg)]) (rest := []) hF1 hF2 C (mX7_leastSize hF) (T := TX7) (N := 12) rfl (gmem 688 (by decide +kernel) rfl) (gmem 689 (by decide +kernel) rfl) (gmem 690 (by decide +kernel) rfl) (gmem 1 (by decide +kernel) rfl) (gmem 691 (by decide +kernel) rfl) (by decide +kernel) rfl (by decide) (by decide) (Nat.le_of_ble_eq_true rfl) hrm (dq DL_law11 19 rfl) rfl rfl ?_
  refine y_aload_n C (dq DL_law11 20 rfl) rfl 2 rfl ?_
  refine y_aload_n C (dq DL_law11 21 rfl) rfl 0 rfl ?_
  refine y_iload C (dq DL_law11 22 rfl) 4 rfl ?_
  refine y_pc 1132 rfl ?_
  refine y_iconst (v := 1) C (dq DL_law11 23 rfl) (by decide) ?_
  refine y_iadd C (dq DL_law11 24 rfl) ?_
  refine y_sld C (dq DL_law11 25 rfl) hX hi1 ?_
  refine y_aload_n C (dq DL_law11 26 rfl) rfl 0 rfl ?_
  refine y_pc 1136 rfl ?_
  refine y_iload C (dq DL_law11 27 rfl) 4 rfl ?_
  refine y_iconst (v := 2) C (dq DL_law11 28 rfl) (by decide) ?_
  refine y_iadd C (dq DL_law11 29 rfl) ?_
  refine y_sld C (dq DL_law11 30 rfl) hX hi2 ?_
  refine y_pc 1141 rfl ?_
  refine l_callM (n := 2) (As := [.int (xs (x4 + 1).toNatClampNeg), .int (xs (x4 + 2).toNatClampNeg)]) (rest := [.int v]) hM1 hM2 C (mX8_leastSize hM) (T := TX8) (N := 49) rfl (gmem 1430 (by decide +kernel) rfl) (gmem 1431 (by decide +kernel) rfl) (gmem 1432 (by decide +kernel) rfl) (gmem 9 (by decide +kernel) rfl) (gmem 1433 (by decide +kernel) rfl) (by decide +kernel) rfl (by decide) (by decide) (Nat.le_of_ble_eq_true rfl) hrm (dq DL_law11 31 rfl) rfl rfl ?_
  exact y_icmp_eq (tgt := 1299) C (dq DL_law11 32 rfl) (by decide) (fun _ => y_pc 1299 rfl k) (fun hc => absurd rfl hc)
set_option maxHeartbeats 1000000 in
theorem law_29 {G : Gt} {l : Launch} {E EF EM : Ev} {cs : Nat × Nat} {b L ob : Nat} {xs : Nat → Int32} {fo : Nat → Int64} {x4 : Int32} {mF mM : Mm} (hF1 : EF.1 = E.1) (hF2 : EF.2.1 = E.2.1) (hM1 : EM.1 = E.1) (hM2 : EM.2.1 = E.2.1) (C : Cx G E cL_law 7 RL (some .boolean) 15 564) (hX : Sx G b L xs) (hrm : Rm G cs.1 cs.2) (hi1 : vp_in (x4 + 1) L) {v : Int32} {mM1 : Mm} (hF : fX7_onWay SX7 mF 0 (xs (x4 + 1).toNatClampNeg) = some v) (hM : fX8_onWay SX8 mM 0 (xs (x4 + 1).toNatClampNeg) = some (v, mM1)) (k : WG G l E cs (LWd E EF EM ob fo mF mM1) 1299 [(0, .ref b), (1, .ref (EF.2.2 0)), (2, .ref (EM.2.2 0)), (3, .ref ob), (4, .int x4)] []) : WG G l E cs (LWd E EF EM ob fo mF mM) 1149 [(0, .ref b), (1, .ref (EF.2.2 0)), (2, .ref (EM.2.2 0)), (3, .ref ob), (4, .int x4)] [] := by
  refine y_aload_n C (dq DL_law11 35 rfl) rfl 1 rfl ?_
  refine y_aload_n C (dq DL_law11 36 rfl) rfl 0 rfl ?_
  refine y_iload C (dq DL_law11 37 rfl) 4 rfl ?_
  refine y_pc 1153 rfl ?_
  refine y_iconst (v := 1) C (dq DL_law11 38 rfl) (by decide) ?_
  refine y_iadd C (dq DL_law11 39 rfl) ?_
  refine y_sld C (dq DL_law11 40 rfl) hX hi1 ?_
  refine l_callF (n := 1) (As := [.int (xs (x4 + 1).toNatClampNeg)]) (rest := []) hF1 hF2 C (mX7_onWay hF) (T := TX7) (N := 12) rfl (gmem 697 (by decide +kernel) rfl) (gmem 698 (by decide +kernel) rfl) (gmem 699 (by decide +kernel) rfl) (gmem 1 (by decide +kernel) rfl) (gmem 700 (by decide +kernel) rfl) (by decide +kernel) rfl (by decide) (by decide) (Nat.le_of_ble_eq_true rfl) hrm (dq DL_law11 41 rfl) rfl rfl ?_
  refine y_pc 1159 rfl ?_
  refine y_aload_n C (dq DL_law11 42 rfl) rfl 2 rfl ?_
  refine y_aload_n C (dq DL_law11 43 rfl) rfl 0 rfl ?_
  refine y_iload C (dq DL_law11 44 rfl) 4 rfl ?_
  refine y_iconst (v := 1) C (dq DL_law11 45 rfl) (by decide) ?_
  refine y_pc 1164 rfl ?_
  refine y_iadd C (dq DL_law11 46 rfl) ?_
  refine y_sld C (dq DL_law11 47 rfl) hX hi1 ?_
  refine l_callM (n := 1) (As := [.int (xs (x4 + 1).toNatClampNeg)]) (rest := [.int v]) hM1 hM2 C (mX8_onWay hM) (T := TX8) (N := 49) rfl (gmem 1319 (by decide +kernel) rfl) (gmem 1320 (by decide +kernel) rfl) (gmem 1321 (by decide +kernel) rfl) (gmem 9 (by decide +kernel) rfl) (gmem 1322 (by decide +kernel) rfl) (by decide +kernel) rfl (by decide) (by decide) (Nat.le_of_ble_eq_true rfl) hrm (dq DL_law11 48 rfl) rfl rfl ?_
  exact y_icmp_eq (tgt := 1299) C (dq DL_law11 49 rfl) (by decide) (fun _ => y_pc 1299 rfl k) (fun hc => absurd rfl hc)
set_option maxHeartbeats 1000000 in
theorem law_30 {G : Gt} {l : Launch} {E EF EM : Ev} {cs : Nat × Nat} {b L ob : Nat} {xs : Nat → Int32} {fo : Nat → Int64} {x4 : Int32} {mF mM : Mm} (hF1 : EF.1 = E.1) (hF2 : EF.2.1 = E.2.1) (hM1 : EM.1 = E.1) (hM2 : EM.2.1 = E.2.1) (C : Cx G E cL_law 7 RL (some .boolean) 15 564) (hX : Sx G b L xs) (hrm : Rm G cs.1 cs.2) (hi1 : vp_in (x4 + 1) L) (hi2 : vp_in (x4 + 2) L) (hi3 : vp_in (x4 + 3) L) (hi4 : vp_in (x4 + 4) L) {v : Int32} {mF1 : Mm} {mM1 : Mm} (hF : fX7_chance SX7 mF 0 (xs (x4 + 1).toNatClampNeg) (xs (x4 + 2).toNatClampNeg) (xs (x4 + 3).toNatClampNeg) (xs (x4 + 4).toNatClampNeg) = some (v, mF1)) (hM : fX8_chance SX8 mM 0 (xs (x4 + 1).toNatClampNeg) (xs (x4 + 2).toNatClampNeg) (xs (x4 + 3).toNatClampNeg) (xs (x4 + 4).toNatClampNeg) = some (v, mM1)) (k : WG G l E cs (LWd E EF EM ob fo mF1 mM1) 1299 [(0, .ref b), (1, .ref (EF.2.2 0)), (2, .ref (EM.2.2 0)), (3, .ref ob), (4, .int x4)] []) : WG G l E cs (LWd E EF EM ob fo mF mM) 1174 [(0, .ref b), (1, .ref (EF.2.2 0)), (2, .ref (EM.2.2 0)), (3, .ref ob), (4, .int x4)] [] := by
  refine y_aload_n C (dq DL_law11 52 rfl) rfl 1 rfl ?_
  refine y_aload_n C (dq DL_law11 53 rfl) rfl 0 rfl ?_
  refine y_iload C (dq DL_law11 54 rfl) 4 rfl ?_
  refine y_pc 1178 rfl ?_
  refine y_iconst (v := 1) C (dq DL_law11 55 rfl) (by decide) ?_
  refine y_iadd C (dq DL_law11 56 rfl) ?_
  refine y_sld C (dq DL_law11 57 rfl) hX hi1 ?_
  refine y_aload_n C (dq DL_law11 58 rfl) rfl 0 rfl ?_
  refine y_pc 1182 rfl ?_
  refine y_iload C (dq DL_law11 59 rfl) 4 rfl ?_
  refine y_iconst (v := 2) C (dq DL_law12 0 rfl) (by decide) ?_
  refine y_iadd C (dq DL_law12 1 rfl) ?_
  refine y_sld C (dq DL_law12 2 rfl) hX hi2 ?_
  refine y_pc 1187 rfl ?_
  refine y_aload_n C (dq DL_law12 3 rfl) rfl 0 rfl ?_
  refine y_iload C (dq DL_law12 4 rfl) 4 rfl ?_
  refine y_iconst (v := 3) C (dq DL_law12 5 rfl) (by decide) ?_
  refine y_iadd C (dq DL_law12 6 rfl) ?_
  refine y_pc 1192 rfl ?_
  refine y_sld C (dq DL_law12 7 rfl) hX hi3 ?_
  refine y_aload_n C (dq DL_law12 8 rfl) rfl 0 rfl ?_
  refine y_iload C (dq DL_law12 9 rfl) 4 rfl ?_
  refine y_iconst (v := 4) C (dq DL_law12 10 rfl) (by decide) ?_
  refine y_pc 1197 rfl ?_
  refine y_iadd C (dq DL_law12 11 rfl) ?_
  refine y_sld C (dq DL_law12 12 rfl) hX hi4 ?_
  refine l_callF (n := 4) (As := [.int (xs (x4 + 1).toNatClampNeg), .int (xs (x4 + 2).toNatClampNeg), .int (xs (x4 + 3).toNatClampNeg), .int (xs (x4 + 4).toNatClampNeg)]) (rest := []) hF1 hF2 C (mX7_chance hF) (T := TX7) (N := 12) rfl (gmem 701 (by decide +kernel) rfl) (gmem 702 (by decide +kernel) rfl) (gmem 703 (by decide +kernel) rfl) (gmem 1 (by decide +kernel) rfl) (gmem 704 (by decide +kernel) rfl) (by decide +kernel) rfl (by decide) (by decide) (Nat.le_of_ble_eq_true rfl) hrm (dq DL_law12 13 rfl) rfl rfl ?_
  refine y_aload_n C (dq DL_law12 14 rfl) rfl 2 rfl ?_
  refine y_pc 1203 rfl ?_
  refine y_aload_n C (dq DL_law12 15 rfl) rfl 0 rfl ?_
  refine y_iload C (dq DL_law12 16 rfl) 4 rfl ?_
  refine y_iconst (v := 1) C (dq DL_law12 17 rfl) (by decide) ?_
  refine y_iadd C (dq DL_law12 18 rfl) ?_
  refine y_pc 1208 rfl ?_
  refine y_sld C (dq DL_law12 19 rfl) hX hi1 ?_
  refine y_aload_n C (dq DL_law12 20 rfl) rfl 0 rfl ?_
  refine y_iload C (dq DL_law12 21 rfl) 4 rfl ?_
  refine y_iconst (v := 2) C (dq DL_law12 22 rfl) (by decide) ?_
  refine y_pc 1213 rfl ?_
  refine y_iadd C (dq DL_law12 23 rfl) ?_
  refine y_sld C (dq DL_law12 24 rfl) hX hi2 ?_
  refine y_aload_n C (dq DL_law12 25 rfl) rfl 0 rfl ?_
  refine y_iload C (dq DL_law12 26 rfl) 4 rfl ?_
  refine y_pc 1218 rfl ?_
  refine y_iconst (v := 3) C (dq DL_law12 27 rfl) (by decide) ?_
  refine y_iadd C (dq DL_law12 28 rfl) ?_
  refine y_sld C (dq DL_law12 29 rfl) hX hi3 ?_
  refine y_aload_n C (dq DL_law12 30 rfl) rfl 0 rfl ?_
  refine y_pc 1222 rfl ?_
  refine y_iload C (dq DL_law12 31 rfl) 4 rfl ?_
  refine y_iconst (v := 4) C (dq DL_law12 32 rfl) (by decide) ?_
  refine y_iadd C (dq DL_law12 33 rfl) ?_
  refine y_sld C (dq DL_law12 34 rfl) hX hi4 ?_
  refine y_pc 1227 rfl ?_
  refine l_callM (n := 4) (As := [.int (xs (x4 + 1).toNatClampNeg), .int (xs (x4 + 2).toNatClampNeg), .int (xs (x4 + 3).toNatClampNeg), .int (xs (x4 + 4).toNatClampNeg)]) (rest := [.int v]) hM1 hM2 C (mX8_chance hM) (T := TX8) (N := 49) rfl (gmem 1434 (by decide +kernel) rfl) (gmem 1435 (by decide +kernel) rfl) (gmem 1436 (by decide +kernel) rfl) (gmem 9 (by decide +kernel) rfl) (gmem 1437 (by decide +kernel) rfl) (by decide +kernel) rfl (by decide) (by decide) (Nat.le_of_ble_eq_true rfl) hrm (dq DL_law12 35 rfl) rfl rfl ?_
  exact y_icmp_eq (tgt := 1299) C (dq DL_law12 36 rfl) (by decide) (fun _ => y_pc 1299 rfl k) (fun hc => absurd rfl hc)
set_option maxHeartbeats 1000000 in
theorem law_31 {G : Gt} {l : Launch} {E EF EM : Ev} {cs : Nat × Nat} {b L ob : Nat} {xs : Nat → Int32} {fo : Nat → Int64} {x4 : Int32} {mF mM : Mm} (hF1 : EF.1 = E.1) (hF2 : EF.2.1 = E.2.1) (hM1 : EM.1 = E.1) (hM2 : EM.2.1 = E.2.1) (C : Cx G E cL_law 7 RL (some .boolean) 15 564) (hX : Sx G b L xs) (hrm : Rm G cs.1 cs.2)  {v : Int32} {mF1 : Mm} {mM1 : Mm} (hF : fX7_undo SX7 mF 0  = some (v, mF1)) (hM : fX8_undo SX8 mM 0  = some (v, mM1)) (k : WG G l E cs (LWd E EF EM ob fo mF1 mM1) 1299 [(0, .ref b), (1, .ref (EF.2.2 0)), (2, .ref (EM.2.2 0)), (3, .ref ob), (4, .int x4)] []) : WG G l E cs (LWd E EF EM ob fo mF mM) 1235 [(0, .ref b), (1, .ref (EF.2.2 0)), (2, .ref (EM.2.2 0)), (3, .ref ob), (4, .int x4)] [] := by
  refine y_aload_n C (dq DL_law12 39 rfl) rfl 1 rfl ?_
  refine l_callF (n := 0) (As := []) (rest := []) hF1 hF2 C (mX7_undo hF) (T := TX7) (N := 12) rfl (gmem 714 (by decide +kernel) rfl) (gmem 715 (by decide +kernel) rfl) (gmem 716 (by decide +kernel) rfl) (gmem 1 (by decide +kernel) rfl) (gmem 717 (by decide +kernel) rfl) (by decide +kernel) rfl (by decide) (by decide) (Nat.le_of_ble_eq_true rfl) hrm (dq DL_law12 40 rfl) rfl rfl ?_
  refine y_aload_n C (dq DL_law12 41 rfl) rfl 2 rfl ?_
  refine y_pc 1240 rfl ?_
  refine l_callM (n := 0) (As := []) (rest := [.int v]) hM1 hM2 C (mX8_undo hM) (T := TX8) (N := 49) rfl (gmem 1169 (by decide +kernel) rfl) (gmem 1170 (by decide +kernel) rfl) (gmem 1171 (by decide +kernel) rfl) (gmem 9 (by decide +kernel) rfl) (gmem 1172 (by decide +kernel) rfl) (by decide +kernel) rfl (by decide) (by decide) (Nat.le_of_ble_eq_true rfl) hrm (dq DL_law12 42 rfl) rfl rfl ?_
  exact y_icmp_eq (tgt := 1299) C (dq DL_law12 43 rfl) (by decide) (fun _ => y_pc 1299 rfl k) (fun hc => absurd rfl hc)
set_option maxHeartbeats 1000000 in
theorem law_32 {G : Gt} {l : Launch} {E EF EM : Ev} {cs : Nat × Nat} {b L ob : Nat} {xs : Nat → Int32} {fo : Nat → Int64} {x4 : Int32} {mF mM : Mm} (hF1 : EF.1 = E.1) (hF2 : EF.2.1 = E.2.1) (hM1 : EM.1 = E.1) (hM2 : EM.2.1 = E.2.1) (C : Cx G E cL_law 7 RL (some .boolean) 15 564) (hX : Sx G b L xs) (hrm : Rm G cs.1 cs.2)  {v : Int32} {mF1 : Mm} {mM1 : Mm} (hF : fX7_keep SX7 mF 0  = some (v, mF1)) (hM : fX8_keep SX8 mM 0  = some (v, mM1)) (k : WG G l E cs (LWd E EF EM ob fo mF1 mM1) 1299 [(0, .ref b), (1, .ref (EF.2.2 0)), (2, .ref (EM.2.2 0)), (3, .ref ob), (4, .int x4)] []) : WG G l E cs (LWd E EF EM ob fo mF mM) 1248 [(0, .ref b), (1, .ref (EF.2.2 0)), (2, .ref (EM.2.2 0)), (3, .ref ob), (4, .int x4)] [] := by
  refine y_aload_n C (dq DL_law12 46 rfl) rfl 1 rfl ?_
  refine l_callF (n := 0) (As := []) (rest := []) hF1 hF2 C (mX7_keep hF) (T := TX7) (N := 12) rfl (gmem 723 (by decide +kernel) rfl) (gmem 724 (by decide +kernel) rfl) (gmem 725 (by decide +kernel) rfl) (gmem 1 (by decide +kernel) rfl) (gmem 726 (by decide +kernel) rfl) (by decide +kernel) rfl (by decide) (by decide) (Nat.le_of_ble_eq_true rfl) hrm (dq DL_law12 47 rfl) rfl rfl ?_
  refine y_aload_n C (dq DL_law12 48 rfl) rfl 2 rfl ?_
  refine y_pc 1253 rfl ?_
  refine l_callM (n := 0) (As := []) (rest := [.int v]) hM1 hM2 C (mX8_keep hM) (T := TX8) (N := 49) rfl (gmem 1176 (by decide +kernel) rfl) (gmem 1177 (by decide +kernel) rfl) (gmem 1178 (by decide +kernel) rfl) (gmem 9 (by decide +kernel) rfl) (gmem 1179 (by decide +kernel) rfl) (by decide +kernel) rfl (by decide) (by decide) (Nat.le_of_ble_eq_true rfl) hrm (dq DL_law12 49 rfl) rfl rfl ?_
  exact y_icmp_eq (tgt := 1299) C (dq DL_law12 50 rfl) (by decide) (fun _ => y_pc 1299 rfl k) (fun hc => absurd rfl hc)
set_option maxHeartbeats 1000000 in
theorem law_33 {G : Gt} {l : Launch} {E EF EM : Ev} {cs : Nat × Nat} {b L ob : Nat} {xs : Nat → Int32} {fo : Nat → Int64} {x4 : Int32} {mF mM : Mm} (hF1 : EF.1 = E.1) (hF2 : EF.2.1 = E.2.1) (hM1 : EM.1 = E.1) (hM2 : EM.2.1 = E.2.1) (C : Cx G E cL_law 7 RL (some .boolean) 15 564) (hX : Sx G b L xs) (hrm : Rm G cs.1 cs.2)  {v : Int32} {mF1 : Mm} {mM1 : Mm} (hF : fX7_back SX7 mF 0  = some (v, mF1)) (hM : fX8_back SX8 mM 0  = some (v, mM1)) (k : WG G l E cs (LWd E EF EM ob fo mF1 mM1) 1299 [(0, .ref b), (1, .ref (EF.2.2 0)), (2, .ref (EM.2.2 0)), (3, .ref ob), (4, .int x4)] []) : WG G l E cs (LWd E EF EM ob fo mF mM) 1261 [(0, .ref b), (1, .ref (EF.2.2 0)), (2, .ref (EM.2.2 0)), (3, .ref ob), (4, .int x4)] [] := by
  refine y_aload_n C (dq DL_law12 53 rfl) rfl 1 rfl ?_
  refine l_callF (n := 0) (As := []) (rest := []) hF1 hF2 C (mX7_back hF) (T := TX7) (N := 12) rfl (gmem 727 (by decide +kernel) rfl) (gmem 728 (by decide +kernel) rfl) (gmem 729 (by decide +kernel) rfl) (gmem 1 (by decide +kernel) rfl) (gmem 730 (by decide +kernel) rfl) (by decide +kernel) rfl (by decide) (by decide) (Nat.le_of_ble_eq_true rfl) hrm (dq DL_law12 54 rfl) rfl rfl ?_
  refine y_aload_n C (dq DL_law12 55 rfl) rfl 2 rfl ?_
  refine y_pc 1266 rfl ?_
  refine l_callM (n := 0) (As := []) (rest := [.int v]) hM1 hM2 C (mX8_back hM) (T := TX8) (N := 49) rfl (gmem 1180 (by decide +kernel) rfl) (gmem 1181 (by decide +kernel) rfl) (gmem 1182 (by decide +kernel) rfl) (gmem 9 (by decide +kernel) rfl) (gmem 1183 (by decide +kernel) rfl) (by decide +kernel) rfl (by decide) (by decide) (Nat.le_of_ble_eq_true rfl) hrm (dq DL_law12 56 rfl) rfl rfl ?_
  exact y_icmp_eq (tgt := 1299) C (dq DL_law12 57 rfl) (by decide) (fun _ => y_pc 1299 rfl k) (fun hc => absurd rfl hc)
set_option maxHeartbeats 1000000 in
theorem law_34 {G : Gt} {l : Launch} {E EF EM : Ev} {cs : Nat × Nat} {b L ob : Nat} {xs : Nat → Int32} {fo : Nat → Int64} {x4 : Int32} {mF mM : Mm} (hF1 : EF.1 = E.1) (hF2 : EF.2.1 = E.2.1) (hM1 : EM.1 = E.1) (hM2 : EM.2.1 = E.2.1) (C : Cx G E cL_law 7 RL (some .boolean) 15 564) (hX : Sx G b L xs) (hrm : Rm G cs.1 cs.2) (hi1 : vp_in (x4 + 1) L) {v : Int32} {mM1 : Mm} (hF : fX7_count SX7 mF 0 (xs (x4 + 1).toNatClampNeg) = some v) (hM : fX8_count SX8 mM 0 (xs (x4 + 1).toNatClampNeg) = some (v, mM1)) (k : WG G l E cs (LWd E EF EM ob fo mF mM1) 1299 [(0, .ref b), (1, .ref (EF.2.2 0)), (2, .ref (EM.2.2 0)), (3, .ref ob), (4, .int x4)] []) : WG G l E cs (LWd E EF EM ob fo mF mM) 1274 [(0, .ref b), (1, .ref (EF.2.2 0)), (2, .ref (EM.2.2 0)), (3, .ref ob), (4, .int x4)] [] := by
  refine y_aload_n C (dq DL_law13 0 rfl) rfl 1 rfl ?_
  refine y_aload_n C (dq DL_law13 1 rfl) rfl 0 rfl ?_
  refine y_iload C (dq DL_law13 2 rfl) 4 rfl ?_
  refine y_pc 1278 rfl ?_
  refine y_iconst (v := 1) C (dq DL_law13 3 rfl) (by decide) ?_
  refine y_iadd C (dq DL_law13 4 rfl) ?_
  refine y_sld C (dq DL_law13 5 rfl) hX hi1 ?_
  refine l_callF (n := 1) (As := [.int (xs (x4 + 1).toNatClampNeg)]) (rest := []) hF1 hF2 C (mX7_count hF) (T := TX7) (N := 12) rfl (gmem 731 (by decide +kernel) rfl) (gmem 732 (by decide +kernel) rfl) (gmem 733 (by decide +kernel) rfl) (gmem 1 (by decide +kernel) rfl) (gmem 734 (by decide +kernel) rfl) (by decide +kernel) rfl (by decide) (by decide) (Nat.le_of_ble_eq_true rfl) hrm (dq DL_law13 6 rfl) rfl rfl ?_
  refine y_pc 1284 rfl ?_
  refine y_aload_n C (dq DL_law13 7 rfl) rfl 2 rfl ?_
  refine y_aload_n C (dq DL_law13 8 rfl) rfl 0 rfl ?_
  refine y_iload C (dq DL_law13 9 rfl) 4 rfl ?_
  refine y_iconst (v := 1) C (dq DL_law13 10 rfl) (by decide) ?_
  refine y_pc 1289 rfl ?_
  refine y_iadd C (dq DL_law13 11 rfl) ?_
  refine y_sld C (dq DL_law13 12 rfl) hX hi1 ?_
  refine l_callM (n := 1) (As := [.int (xs (x4 + 1).toNatClampNeg)]) (rest := [.int v]) hM1 hM2 C (mX8_count hM) (T := TX8) (N := 49) rfl (gmem 1448 (by decide +kernel) rfl) (gmem 1449 (by decide +kernel) rfl) (gmem 1450 (by decide +kernel) rfl) (gmem 9 (by decide +kernel) rfl) (gmem 1451 (by decide +kernel) rfl) (by decide +kernel) rfl (by decide) (by decide) (Nat.le_of_ble_eq_true rfl) hrm (dq DL_law13 13 rfl) rfl rfl ?_
  exact y_icmp_eq (tgt := 1299) C (dq DL_law13 14 rfl) (by decide) (fun _ => y_pc 1299 rfl k) (fun hc => absurd rfl hc)

noncomputable section
/-! ===== what else holds; hints; all together ===== -/
noncomputable def QQ : QK := (141, (139, (140, (131, (148, (110, 32))))))
noncomputable def PE9 : List Ep := [(400, (5, (0, (110, (6, 1))))), (404, (10, (0, (110, (20, 1))))), (408, (11, (1, (125, (1, 39))))), (412, (12, (1, (126, (1, 39))))), (416, (13, (0, (127, (0, 40))))), (420, (14, (0, (128, (0, 40))))), (424, (5, (1, (110, (7, 1))))), (428, (1, (0, (111, (0, 1200))))), (432, (0, (1, (110, (1, 1))))), (436, (17, (0, (110, (32, 1))))), (440, (19, (0, (131, (0, 8)))))]
theorem PE9_apt : eApt PE9 := ⟨by decide, by decide, by decide, by decide, by decide, by decide, by decide, by decide, by decide, by decide, by decide, trivial⟩
noncomputable def PL9 : List Ep := []
theorem PL9_apt : eApt PL9 := trivial
noncomputable def RWg : List Nat := [1, 23, 24, 25, 26, 111, 128, 110, 1000, 143, 144, 145, 146, 148, 149, 17]
noncomputable def WG : List (Nat × List Ru) := [(1, [wu_z1]), (17, [wu_z17, wu_po]), (23, [wu_z23]), (24, [wu_z24, wu_k24n, wu_k24a]), (25, [wu_z25, wu_k25n, wu_k25a]), (26, [wu_z26, wu_k26n, wu_k26a]), (110, [wu_z110, wu_o0, wu_o2, wu_o8, wu_o21, wu_o31, wu_oTok]), (111, [wu_z111]), (128, [wu_z128]), (143, [wu_z143, wu_g143n, wu_g143a, wu_g143p]), (144, [wu_z144, wu_g144n, wu_g144a, wu_g144p]), (145, [wu_z145, wu_g145n, wu_g145a, wu_g145p]), (146, [wu_z146, wu_g146n, wu_g146a, wu_g146p]), (148, [wu_z148, wu_wcn, wu_wca, wu_wcp]), (149, [wu_z149, wu_wrn, wu_wra, wu_wrp3, wu_wrp7, wu_wrpa, wu_wrpb]), (1000, [wu_z1000, wu_oVal])]
theorem WG_ok : ∀ e ∈ WG, ∀ R ∈ e.2, tgsOk 1100 1209 RWg R = true ∧ WrOk SR e.1 R := List.forall_mem_cons.mpr ⟨List.forall_mem_cons.mpr ⟨⟨by decide +kernel, wk_z1⟩, fun _ h => (by cases h)⟩, List.forall_mem_cons.mpr ⟨List.forall_mem_cons.mpr ⟨⟨by decide +kernel, wk_z17⟩, List.forall_mem_cons.mpr ⟨⟨by decide +kernel, wk_po⟩, fun _ h => (by cases h)⟩⟩, List.forall_mem_cons.mpr ⟨List.forall_mem_cons.mpr ⟨⟨by decide +kernel, wk_z23⟩, fun _ h => (by cases h)⟩, List.forall_mem_cons.mpr ⟨List.forall_mem_cons.mpr ⟨⟨by decide +kernel, wk_z24⟩, List.forall_mem_cons.mpr ⟨⟨by decide +kernel, wk_k24n⟩, List.forall_mem_cons.mpr ⟨⟨by decide +kernel, wk_k24a⟩, fun _ h => (by cases h)⟩⟩⟩, List.forall_mem_cons.mpr ⟨List.forall_mem_cons.mpr ⟨⟨by decide +kernel, wk_z25⟩, List.forall_mem_cons.mpr ⟨⟨by decide +kernel, wk_k25n⟩, List.forall_mem_cons.mpr ⟨⟨by decide +kernel, wk_k25a⟩, fun _ h => (by cases h)⟩⟩⟩, List.forall_mem_cons.mpr ⟨List.forall_mem_cons.mpr ⟨⟨by decide +kernel, wk_z26⟩, List.forall_mem_cons.mpr ⟨⟨by decide +kernel, wk_k26n⟩, List.forall_mem_cons.mpr ⟨⟨by decide +kernel, wk_k26a⟩, fun _ h => (by cases h)⟩⟩⟩, List.forall_mem_cons.mpr ⟨List.forall_mem_cons.mpr ⟨⟨by decide +kernel, wk_z110⟩, List.forall_mem_cons.mpr ⟨⟨by decide +kernel, wk_o0⟩, List.forall_mem_cons.mpr ⟨⟨by decide +kernel, wk_o2⟩, List.forall_mem_cons.mpr ⟨⟨by decide +kernel, wk_o8⟩, List.forall_mem_cons.mpr ⟨⟨by decide +kernel, wk_o21⟩, List.forall_mem_cons.mpr ⟨⟨by decide +kernel, wk_o31⟩, List.forall_mem_cons.mpr ⟨⟨by decide +kernel, wk_oTok⟩, fun _ h => (by cases h)⟩⟩⟩⟩⟩⟩⟩, List.forall_mem_cons.mpr ⟨List.forall_mem_cons.mpr ⟨⟨by decide +kernel, wk_z111⟩, fun _ h => (by cases h)⟩, List.forall_mem_cons.mpr ⟨List.forall_mem_cons.mpr ⟨⟨by decide +kernel, wk_z128⟩, fun _ h => (by cases h)⟩, List.forall_mem_cons.mpr ⟨List.forall_mem_cons.mpr ⟨⟨by decide +kernel, wk_z143⟩, List.forall_mem_cons.mpr ⟨⟨by decide +kernel, wk_g143n⟩, List.forall_mem_cons.mpr ⟨⟨by decide +kernel, wk_g143a⟩, List.forall_mem_cons.mpr ⟨⟨by decide +kernel, wk_g143p⟩, fun _ h => (by cases h)⟩⟩⟩⟩, List.forall_mem_cons.mpr ⟨List.forall_mem_cons.mpr ⟨⟨by decide +kernel, wk_z144⟩, List.forall_mem_cons.mpr ⟨⟨by decide +kernel, wk_g144n⟩, List.forall_mem_cons.mpr ⟨⟨by decide +kernel, wk_g144a⟩, List.forall_mem_cons.mpr ⟨⟨by decide +kernel, wk_g144p⟩, fun _ h => (by cases h)⟩⟩⟩⟩, List.forall_mem_cons.mpr ⟨List.forall_mem_cons.mpr ⟨⟨by decide +kernel, wk_z145⟩, List.forall_mem_cons.mpr ⟨⟨by decide +kernel, wk_g145n⟩, List.forall_mem_cons.mpr ⟨⟨by decide +kernel, wk_g145a⟩, List.forall_mem_cons.mpr ⟨⟨by decide +kernel, wk_g145p⟩, fun _ h => (by cases h)⟩⟩⟩⟩, List.forall_mem_cons.mpr ⟨List.forall_mem_cons.mpr ⟨⟨by decide +kernel, wk_z146⟩, List.forall_mem_cons.mpr ⟨⟨by decide +kernel, wk_g146n⟩, List.forall_mem_cons.mpr ⟨⟨by decide +kernel, wk_g146a⟩, List.forall_mem_cons.mpr ⟨⟨by decide +kernel, wk_g146p⟩, fun _ h => (by cases h)⟩⟩⟩⟩, List.forall_mem_cons.mpr ⟨List.forall_mem_cons.mpr ⟨⟨by decide +kernel, wk_z148⟩, List.forall_mem_cons.mpr ⟨⟨by decide +kernel, wk_wcn⟩, List.forall_mem_cons.mpr ⟨⟨by decide +kernel, wk_wca⟩, List.forall_mem_cons.mpr ⟨⟨by decide +kernel, wk_wcp⟩, fun _ h => (by cases h)⟩⟩⟩⟩, List.forall_mem_cons.mpr ⟨List.forall_mem_cons.mpr ⟨⟨by decide +kernel, wk_z149⟩, List.forall_mem_cons.mpr ⟨⟨by decide +kernel, wk_wrn⟩, List.forall_mem_cons.mpr ⟨⟨by decide +kernel, wk_wra⟩, List.forall_mem_cons.mpr ⟨⟨by decide +kernel, wk_wrp3⟩, List.forall_mem_cons.mpr ⟨⟨by decide +kernel, wk_wrp7⟩, List.forall_mem_cons.mpr ⟨⟨by decide +kernel, wk_wrpa⟩, List.forall_mem_cons.mpr ⟨⟨by decide +kernel, wk_wrpb⟩, fun _ h => (by cases h)⟩⟩⟩⟩⟩⟩⟩, List.forall_mem_cons.mpr ⟨List.forall_mem_cons.mpr ⟨⟨by decide +kernel, wk_z1000⟩, List.forall_mem_cons.mpr ⟨⟨by decide +kernel, wk_oVal⟩, fun _ h => (by cases h)⟩⟩, fun _ h => (by cases h)⟩⟩⟩⟩⟩⟩⟩⟩⟩⟩⟩⟩⟩⟩⟩⟩
noncomputable def RGT : BT Ru := [(323, [(300, ru_txq9), (301, ru_txs9), (302, ru_txw9), (303, ru_txf9), (304, ru_txg9), (305, ru_tys9), (306, ru_tyf9), (307, ru_bl32), (308, ru_bl10), (309, ru_skA), (310, ru_skB), (311, ru_skC), (312, ru_skE), (313, ru_sk0), (314, ru_tokE), (315, ru_wS), (316, ru_wSl), (317, ru_wNl), (318, ru_wVl), (319, ru_wWl), (320, ru_wNf), (321, ru_wVf), (322, ru_wWf), (323, ru_wH)]), (347, [(324, ru_wE1), (325, ru_wE2), (326, ru_wE3), (327, ru_wE4), (328, ru_fS), (329, ru_fSl), (330, ru_fNh), (331, ru_fNm), (332, ru_fM), (333, ru_fE1), (334, ru_fX1), (335, ru_fE2), (336, ru_fX2), (337, ru_fE3), (338, ru_fX3), (339, ru_fE4), (340, ru_fX4), (341, ru_fE5), (342, ru_fX5), (343, ru_fE6), (344, ru_fX6), (345, ru_fE7), (346, ru_fX7), (347, ru_fP)]), (371, [(348, ru_gN), (349, ru_gE1A), (350, ru_gE1B), (351, ru_gE1C), (352, ru_gE2A), (353, ru_gE2B), (354, ru_gE2C), (355, ru_gE3A), (356, ru_gE3B), (357, ru_gE3C), (358, ru_sga), (359, ru_sgb), (360, ru_sgc), (361, ru_sgd), (362, ru_sge), (363, ru_sgf), (364, ru_sgg), (365, ru_sgh), (366, ru_sgi), (367, ru_sp14), (368, ru_sp16), (369, ru_sp17), (370, ru_sx0), (371, ru_sx1)]), (395, [(372, ru_sx2), (373, ru_sx3), (374, ru_sx4), (375, ru_sx5), (376, ru_sx6), (377, ru_sx7), (378, ru_sx8), (379, ru_sx9), (380, ru_tk0), (381, ru_tk1), (382, ru_tk2), (383, ru_tk3), (384, ru_tk5), (385, ru_tk4), (386, ru_nM), (387, ru_nMf), (388, ru_go), (389, ru_sav), (390, ru_res), (391, ru_cM), (392, ru_mk0), (393, ru_mk1), (394, ru_mk2), (395, ru_mk3)]), (419, [(396, ru_mk4), (397, ru_mk5), (398, ru_mv), (399, ru_ms), (400, ru_mwL), (401, ru_msL), (402, ru_mwG), (403, ru_msG), (404, ru_mk1b), (405, ru_mvl), (406, ru_mvb1), (407, ru_mvb2), (408, ru_fo1), (409, ru_fo1n), (410, ru_foK), (411, ru_foS), (412, ru_foI), (413, ru_foE), (414, ru_fo2), (415, ru_fxa), (416, ru_fxb), (417, ru_fo3), (418, ru_fya), (419, ru_fyb)]), (443, [(420, ru_fo4), (421, ru_fza), (422, ru_fzb), (423, ru_fzc), (424, ru_ffr), (425, ru_fdr), (426, ru_fdk), (427, ru_rC), (428, ru_rE), (429, ru_rS), (430, ru_rP7), (431, ru_rP8), (432, ru_rPa), (433, ru_rPb), (434, ru_rPc), (435, ru_rX), (436, ru_xNot), (437, ru_xPar1), (438, ru_xPar0), (439, ru_xNeg), (440, ru_xNotD), (441, ru_xParD), (442, ru_xNegD), (443, ru_xNumA)]), (467, [(444, ru_xNumB), (445, ru_xKnO), (446, ru_xKnB), (447, ru_xSzO), (448, ru_xSzB), (449, ru_xEl1), (450, ru_xEl2), (451, ru_xEl3), (452, ru_xEl4), (453, ru_xEl5), (454, ru_xFeB), (455, ru_cF), (456, ru_nF2), (457, ru_cSet), (458, ru_nSet), (459, ru_rdk), (460, ru_rdq), (461, ru_goX), (462, ru_dpc), (463, ru_fin), (464, ru_xItm), (465, ru_xItD), (466, ru_xVla), (467, ru_xVlb)]), (491, [(468, ru_rb), (469, ru_rbm), (470, ru_ro7), (471, ru_ro6), (472, ru_ro5), (473, ru_ro2), (474, ru_ro1), (475, ru_ro0), (476, ru_ro5o), (477, ru_ro6o), (478, ru_ro2a), (479, ru_ro1a), (480, ru_rod), (481, ru_rof), (482, ru_roz), (483, ru_rdr), (484, ru_xo1), (485, ru_xo2), (486, ru_xIn), (487, ru_rb7), (488, ru_ro7b), (489, ru_gOpA), (490, ru_gOpB), (491, ru_gCmp)]), (515, [(492, ru_gInO), (493, ru_gInB), (494, ru_gAnd), (495, ru_gOr), (496, ru_gClC), (497, ru_gClV1), (498, ru_gClV2), (499, ru_gClV3), (500, ru_gF1), (501, ru_gFc1), (502, ru_gFc2), (503, ru_gFi1), (504, ru_gFi2), (505, ru_gFa1), (506, ru_gFa2), (507, ru_gFp0), (508, ru_gFp3), (509, ru_gFp1), (510, ru_gFq), (511, ru_gFe0), (512, ru_gFf0), (513, ru_gEn0), (514, ru_gFe1), (515, ru_gFf1)]), (539, [(516, ru_gEn1), (517, ru_gFe2), (518, ru_gFf2), (519, ru_gEn2), (520, ru_gFo0), (521, ru_gFo1), (522, ru_gFo2), (523, ru_gFo3), (524, ru_gFo4), (525, ru_nop), (526, ru_nog), (527, ru_not), (528, ru_nb1), (529, ru_nb2), (530, ru_nb3), (531, ru_nb4), (532, ru_nb5), (533, ru_nb6), (534, ru_nb7), (535, ru_nb8), (536, ru_nb9a), (537, ru_nb9b), (538, ru_nb9c), (539, ru_nbE)]), (563, [(540, ru_nbX), (541, ru_nbD), (542, ru_y0), (543, ru_y0a), (544, ru_y0b), (545, ru_y1), (546, ru_y1p), (547, ru_y1g), (548, ru_dp2), (549, ru_nv1), (550, ru_y1v), (551, ru_yqa), (552, ru_yqb), (553, ru_yqc), (554, ru_yqd), (555, ru_y1x), (556, ru_y1y), (557, ru_yqD), (558, ru_y20), (559, ru_y21), (560, ru_y22), (561, ru_y23), (562, ru_y2x0), (563, ru_y2x1)]), (587, [(564, ru_y2x2), (565, ru_y2x3), (566, ru_y3a), (567, ru_y3x1), (568, ru_y3y1), (569, ru_y3z1), (570, ru_y3x2), (571, ru_y3y2), (572, ru_y3z2), (573, ru_y3t), (574, ru_y6a), (575, ru_y6b), (576, ru_y6c), (577, ru_y4a), (578, ru_y4b), (579, ru_y4c), (580, ru_y7o), (581, ru_y7x), (582, ru_y5a15), (583, ru_y5b15), (584, ru_y5c15), (585, ru_y5a18), (586, ru_y5b18), (587, ru_y5c18)]), (611, [(588, ru_y9a), (589, ru_y9b), (590, ru_y9c), (591, ru_y9d), (592, ru_xD), (593, ru_yD), (594, ru_ma), (595, ru_mk0b), (596, ru_zF), (597, ru_zo1), (598, ru_zo2), (599, ru_zIn), (600, ru_z30), (601, ru_zy1), (602, ru_zy2), (603, ru_zyo), (604, ru_zyxB), (605, ru_zyx), (606, ru_z30B), (607, ru_z1eB), (608, ru_z1aB), (609, ru_z1bB), (610, ru_z1cB), (611, ru_z1e)]), (635, [(612, ru_z1s), (613, ru_z1a), (614, ru_z1b), (615, ru_z1c), (616, ru_zD), (617, ru_sp0), (618, ru_lA0), (619, ru_lA1), (620, ru_lA2), (621, ru_lA3), (622, ru_lA5), (623, ru_lA4), (624, ru_lOk), (625, ru_lBad), (626, ru_lEnd), (627, ru_ci), (628, ru_ps), (629, ru_pf), (630, ru_cc), (631, ru_dc), (632, ru_hk0), (633, ru_hk1), (634, ru_hk2), (635, ru_hk3)]), (659, [(636, ru_hk4), (637, ru_hk5), (638, ru_nx1), (639, ru_nx2), (640, ru_nx3), (641, ru_nxa), (642, ru_hs), (643, ru_hsL), (644, ru_hsG), (645, ru_hk0b), (646, ru_hk1b), (647, ru_hk4b), (648, ru_hk4c), (649, ru_hve), (650, ru_hw_no), (651, ru_hL_no), (652, ru_hG_no), (653, ru_hw_yes), (654, ru_hL_yes), (655, ru_hG_yes), (656, ru_hw_maybe), (657, ru_hL_maybe), (658, ru_hG_maybe), (659, ru_hw_any)]), (683, [(660, ru_hL_any), (661, ru_hG_any), (662, ru_hw_own), (663, ru_hL_own), (664, ru_hG_own), (665, ru_hw_all), (666, ru_hL_all), (667, ru_hG_all), (668, ru_hw_if), (669, ru_hL_if), (670, ru_hG_if), (671, ru_hw_not), (672, ru_hL_not), (673, ru_hG_not), (674, ru_hw_known), (675, ru_hL_known), (676, ru_hG_known), (677, ru_hw_me), (678, ru_hL_me), (679, ru_hG_me), (680, ru_hw_it), (681, ru_hL_it), (682, ru_hG_it), (683, ru_hw_now)]), (707, [(684, ru_hL_now), (685, ru_hG_now), (686, ru_hw_age), (687, ru_hL_age), (688, ru_hG_age), (689, ru_hw_size), (690, ru_hL_size), (691, ru_hG_size), (692, ru_hw_in), (693, ru_hL_in), (694, ru_hG_in), (695, ru_hw_and), (696, ru_hL_and), (697, ru_hG_and), (698, ru_hw_or), (699, ru_hL_or), (700, ru_hG_or), (701, ru_hw_must), (702, ru_hL_must), (703, ru_hG_must), (704, ru_hw_r), (705, ru_hw_w), (706, ru_hw_x), (707, ru_hw_d)]), (731, [(708, ru_hw_g), (709, ru_hw_o), (710, ru_hl), (711, ru_h1L), (712, ru_h1G), (713, ru_toB), (714, ru_toA), (715, ru_bA), (716, ru_toA2), (717, ru_toF), (718, ru_pz), (719, ru_s1xx), (720, ru_pm), (721, ru_cpA), (722, ru_dA), (723, ru_dB), (724, ru_dI), (725, ru_gA0_0), (726, ru_gA0_1), (727, ru_gA1_0), (728, ru_gA1_1), (729, ru_gA3_0), (730, ru_gA3_1), (731, ru_gA5_0)]), (755, [(732, ru_gA5_1), (733, ru_gA6_0), (734, ru_gA6_1), (735, ru_gA9_0), (736, ru_gA9_1), (737, ru_gA2), (738, ru_tN), (739, ru_tW), (740, ru_tS), (741, ru_tIa), (742, ru_tIb), (743, ru_tIc), (744, ru_tId), (745, ru_nDa), (746, ru_nDb), (747, ru_nMi), (748, ru_nPa), (749, ru_c25x), (750, ru_c25o), (751, ru_c25na), (752, ru_c25nb), (753, ru_c21x), (754, ru_c21o), (755, ru_c21na)]), (779, [(756, ru_c21nb), (757, ru_iX), (758, ru_iNa), (759, ru_iNb), (760, ru_iD), (761, ru_iB), (762, ru_s1x), (763, ru_s1o), (764, ru_s1g), (765, ru_s1e), (766, ru_s1f), (767, ru_bA1), (768, ru_s3x), (769, ru_s3o), (770, ru_s3g), (771, ru_s3e), (772, ru_s3f), (773, ru_bA3), (774, ru_mX), (775, ru_mI), (776, ru_mC), (777, ru_mNa), (778, ru_mNb), (779, ru_mNc)]), (803, [(780, ru_uDa), (781, ru_uDb), (782, ru_uN), (783, ru_uK), (784, ru_uCa), (785, ru_uCb), (786, ru_uCc), (787, ru_bP), (788, ru_bO), (789, ru_bFx), (790, ru_bFa), (791, ru_bFb), (792, ru_bR), (793, ru_bC), (794, ru_bM1), (795, ru_bM2), (796, ru_e1), (797, ru_e1a), (798, ru_e1b), (799, ru_e2), (800, ru_e2a), (801, ru_e2b), (802, ru_e3), (803, ru_e3a)]), (827, [(804, ru_e3b), (805, ru_hnp), (806, ru_hng), (807, ru_hnt), (808, ru_hb1), (809, ru_hb2), (810, ru_txp), (811, ru_txk), (812, ru_hpL), (813, ru_hb5), (814, ru_hb6), (815, ru_hve2), (816, ru_hb7), (817, ru_hb8), (818, ru_hb9a), (819, ru_hb9b), (820, ru_hb9c), (821, ru_hbE), (822, ru_q0), (823, ru_q0a), (824, ru_q0b), (825, ru_q1), (826, ru_nvH), (827, ru_nvc)]), (851, [(828, ru_nvd), (829, ru_q1v), (830, ru_q1g), (831, ru_qqa), (832, ru_qqb), (833, ru_qqc), (834, ru_qqd), (835, ru_q1x), (836, ru_q1y), (837, ru_q20), (838, ru_q21), (839, ru_q22), (840, ru_q23), (841, ru_q2x0), (842, ru_q2x1), (843, ru_q2x2), (844, ru_q2x3), (845, ru_q3a), (846, ru_q3x1), (847, ru_q3y1), (848, ru_q3z1), (849, ru_q3x2), (850, ru_q3y2), (851, ru_q3z2)]), (875, [(852, ru_q3t), (853, ru_q6a), (854, ru_q6b), (855, ru_q6c), (856, ru_q4a), (857, ru_q4b), (858, ru_q4c), (859, ru_q7o), (860, ru_q7x), (861, ru_gA3z), (862, ru_q5a15), (863, ru_q5b15), (864, ru_q5c15), (865, ru_q5a18), (866, ru_q5b18), (867, ru_q5c18), (868, ru_q9a), (869, ru_q9b), (870, ru_q9c), (871, ru_q9d), (872, ru_bAr), (873, ru_k2c), (874, ru_hk2c), (875, ru_hz0)]), (888, [(876, ru_hzy), (877, ru_hzo), (878, ru_hzx), (879, ru_hze), (880, ru_hzs), (881, ru_hza), (882, ru_hzb), (883, ru_hzc), (884, ru_hz30), (885, ru_hzD), (886, ru_f4s), (887, ru_f4g), (888, ru_f4D)])]
theorem RGT_ok : BT.AllP (fun _ R => tgsOk 1100 1209 RWg R = true ∧ RuOk SR R) RGT := ⟨⟨⟨by decide +kernel, rk_txq9⟩, ⟨by decide +kernel, rk_txs9⟩, ⟨by decide +kernel, rk_txw9⟩, ⟨by decide +kernel, rk_txf9⟩, ⟨by decide +kernel, rk_txg9⟩, ⟨by decide +kernel, rk_tys9⟩, ⟨by decide +kernel, rk_tyf9⟩, ⟨by decide +kernel, rk_bl32⟩, ⟨by decide +kernel, rk_bl10⟩, ⟨by decide +kernel, rk_skA⟩, ⟨by decide +kernel, rk_skB⟩, ⟨by decide +kernel, rk_skC⟩, ⟨by decide +kernel, rk_skE⟩, ⟨by decide +kernel, rk_sk0⟩, ⟨by decide +kernel, rk_tokE⟩, ⟨by decide +kernel, rk_wS⟩, ⟨by decide +kernel, rk_wSl⟩, ⟨by decide +kernel, rk_wNl⟩, ⟨by decide +kernel, rk_wVl⟩, ⟨by decide +kernel, rk_wWl⟩, ⟨by decide +kernel, rk_wNf⟩, ⟨by decide +kernel, rk_wVf⟩, ⟨by decide +kernel, rk_wWf⟩, ⟨by decide +kernel, rk_wH⟩, trivial⟩, ⟨⟨by decide +kernel, rk_wE1⟩, ⟨by decide +kernel, rk_wE2⟩, ⟨by decide +kernel, rk_wE3⟩, ⟨by decide +kernel, rk_wE4⟩, ⟨by decide +kernel, rk_fS⟩, ⟨by decide +kernel, rk_fSl⟩, ⟨by decide +kernel, rk_fNh⟩, ⟨by decide +kernel, rk_fNm⟩, ⟨by decide +kernel, rk_fM⟩, ⟨by decide +kernel, rk_fE1⟩, ⟨by decide +kernel, rk_fX1⟩, ⟨by decide +kernel, rk_fE2⟩, ⟨by decide +kernel, rk_fX2⟩, ⟨by decide +kernel, rk_fE3⟩, ⟨by decide +kernel, rk_fX3⟩, ⟨by decide +kernel, rk_fE4⟩, ⟨by decide +kernel, rk_fX4⟩, ⟨by decide +kernel, rk_fE5⟩, ⟨by decide +kernel, rk_fX5⟩, ⟨by decide +kernel, rk_fE6⟩, ⟨by decide +kernel, rk_fX6⟩, ⟨by decide +kernel, rk_fE7⟩, ⟨by decide +kernel, rk_fX7⟩, ⟨by decide +kernel, rk_fP⟩, trivial⟩, ⟨⟨by decide +kernel, rk_gN⟩, ⟨by decide +kernel, rk_gE1A⟩, ⟨by decide +kernel, rk_gE1B⟩, ⟨by decide +kernel, rk_gE1C⟩, ⟨by decide +kernel, rk_gE2A⟩, ⟨by decide +kernel, rk_gE2B⟩, ⟨by decide +kernel, rk_gE2C⟩, ⟨by decide +kernel, rk_gE3A⟩, ⟨by decide +kernel, rk_gE3B⟩, ⟨by decide +kernel, rk_gE3C⟩, ⟨by decide +kernel, rk_sga⟩, ⟨by decide +kernel, rk_sgb⟩, ⟨by decide +kernel, rk_sgc⟩, ⟨by decide +kernel, rk_sgd⟩, ⟨by decide +kernel, rk_sge⟩, ⟨by decide +kernel, rk_sgf⟩, ⟨by decide +kernel, rk_sgg⟩, ⟨by decide +kernel, rk_sgh⟩, ⟨by decide +kernel, rk_sgi⟩, ⟨by decide +kernel, rk_sp14⟩, ⟨by decide +kernel, rk_sp16⟩, ⟨by decide +kernel, rk_sp17⟩, ⟨by decide +kernel, rk_sx0⟩, ⟨by decide +kernel, rk_sx1⟩, trivial⟩, ⟨⟨by decide +kernel, rk_sx2⟩, ⟨by decide +kernel, rk_sx3⟩, ⟨by decide +kernel, rk_sx4⟩, ⟨by decide +kernel, rk_sx5⟩, ⟨by decide +kernel, rk_sx6⟩, ⟨by decide +kernel, rk_sx7⟩, ⟨by decide +kernel, rk_sx8⟩, ⟨by decide +kernel, rk_sx9⟩, ⟨by decide +kernel, rk_tk0⟩, ⟨by decide +kernel, rk_tk1⟩, ⟨by decide +kernel, rk_tk2⟩, ⟨by decide +kernel, rk_tk3⟩, ⟨by decide +kernel, rk_tk5⟩, ⟨by decide +kernel, rk_tk4⟩, ⟨by decide +kernel, rk_nM⟩, ⟨by decide +kernel, rk_nMf⟩, ⟨by decide +kernel, rk_go⟩, ⟨by decide +kernel, rk_sav⟩, ⟨by decide +kernel, rk_res⟩, ⟨by decide +kernel, rk_cM⟩, ⟨by decide +kernel, rk_mk0⟩, ⟨by decide +kernel, rk_mk1⟩, ⟨by decide +kernel, rk_mk2⟩, ⟨by decide +kernel, rk_mk3⟩, trivial⟩, ⟨⟨by decide +kernel, rk_mk4⟩, ⟨by decide +kernel, rk_mk5⟩, ⟨by decide +kernel, rk_mv⟩, ⟨by decide +kernel, rk_ms⟩, ⟨by decide +kernel, rk_mwL⟩, ⟨by decide +kernel, rk_msL⟩, ⟨by decide +kernel, rk_mwG⟩, ⟨by decide +kernel, rk_msG⟩, ⟨by decide +kernel, rk_mk1b⟩, ⟨by decide +kernel, rk_mvl⟩, ⟨by decide +kernel, rk_mvb1⟩, ⟨by decide +kernel, rk_mvb2⟩, ⟨by decide +kernel, rk_fo1⟩, ⟨by decide +kernel, rk_fo1n⟩, ⟨by decide +kernel, rk_foK⟩, ⟨by decide +kernel, rk_foS⟩, ⟨by decide +kernel, rk_foI⟩, ⟨by decide +kernel, rk_foE⟩, ⟨by decide +kernel, rk_fo2⟩, ⟨by decide +kernel, rk_fxa⟩, ⟨by decide +kernel, rk_fxb⟩, ⟨by decide +kernel, rk_fo3⟩, ⟨by decide +kernel, rk_fya⟩, ⟨by decide +kernel, rk_fyb⟩, trivial⟩, ⟨⟨by decide +kernel, rk_fo4⟩, ⟨by decide +kernel, rk_fza⟩, ⟨by decide +kernel, rk_fzb⟩, ⟨by decide +kernel, rk_fzc⟩, ⟨by decide +kernel, rk_ffr⟩, ⟨by decide +kernel, rk_fdr⟩, ⟨by decide +kernel, rk_fdk⟩, ⟨by decide +kernel, rk_rC⟩, ⟨by decide +kernel, rk_rE⟩, ⟨by decide +kernel, rk_rS⟩, ⟨by decide +kernel, rk_rP7⟩, ⟨by decide +kernel, rk_rP8⟩, ⟨by decide +kernel, rk_rPa⟩, ⟨by decide +kernel, rk_rPb⟩, ⟨by decide +kernel, rk_rPc⟩, ⟨by decide +kernel, rk_rX⟩, ⟨by decide +kernel, rk_xNot⟩, ⟨by decide +kernel, rk_xPar1⟩, ⟨by decide +kernel, rk_xPar0⟩, ⟨by decide +kernel, rk_xNeg⟩, ⟨by decide +kernel, rk_xNotD⟩, ⟨by decide +kernel, rk_xParD⟩, ⟨by decide +kernel, rk_xNegD⟩, ⟨by decide +kernel, rk_xNumA⟩, trivial⟩, ⟨⟨by decide +kernel, rk_xNumB⟩, ⟨by decide +kernel, rk_xKnO⟩, ⟨by decide +kernel, rk_xKnB⟩, ⟨by decide +kernel, rk_xSzO⟩, ⟨by decide +kernel, rk_xSzB⟩, ⟨by decide +kernel, rk_xEl1⟩, ⟨by decide +kernel, rk_xEl2⟩, ⟨by decide +kernel, rk_xEl3⟩, ⟨by decide +kernel, rk_xEl4⟩, ⟨by decide +kernel, rk_xEl5⟩, ⟨by decide +kernel, rk_xFeB⟩, ⟨by decide +kernel, rk_cF⟩, ⟨by decide +kernel, rk_nF2⟩, ⟨by decide +kernel, rk_cSet⟩, ⟨by decide +kernel, rk_nSet⟩, ⟨by decide +kernel, rk_rdk⟩, ⟨by decide +kernel, rk_rdq⟩, ⟨by decide +kernel, rk_goX⟩, ⟨by decide +kernel, rk_dpc⟩, ⟨by decide +kernel, rk_fin⟩, ⟨by decide +kernel, rk_xItm⟩, ⟨by decide +kernel, rk_xItD⟩, ⟨by decide +kernel, rk_xVla⟩, ⟨by decide +kernel, rk_xVlb⟩, trivial⟩, ⟨⟨by decide +kernel, rk_rb⟩, ⟨by decide +kernel, rk_rbm⟩, ⟨by decide +kernel, rk_ro7⟩, ⟨by decide +kernel, rk_ro6⟩, ⟨by decide +kernel, rk_ro5⟩, ⟨by decide +kernel, rk_ro2⟩, ⟨by decide +kernel, rk_ro1⟩, ⟨by decide +kernel, rk_ro0⟩, ⟨by decide +kernel, rk_ro5o⟩, ⟨by decide +kernel, rk_ro6o⟩, ⟨by decide +kernel, rk_ro2a⟩, ⟨by decide +kernel, rk_ro1a⟩, ⟨by decide +kernel, rk_rod⟩, ⟨by decide +kernel, rk_rof⟩, ⟨by decide +kernel, rk_roz⟩, ⟨by decide +kernel, rk_rdr⟩, ⟨by decide +kernel, rk_xo1⟩, ⟨by decide +kernel, rk_xo2⟩, ⟨by decide +kernel, rk_xIn⟩, ⟨by decide +kernel, rk_rb7⟩, ⟨by decide +kernel, rk_ro7b⟩, ⟨by decide +kernel, rk_gOpA⟩, ⟨by decide +kernel, rk_gOpB⟩, ⟨by decide +kernel, rk_gCmp⟩, trivial⟩, ⟨⟨by decide +kernel, rk_gInO⟩, ⟨by decide +kernel, rk_gInB⟩, ⟨by decide +kernel, rk_gAnd⟩, ⟨by decide +kernel, rk_gOr⟩, ⟨by decide +kernel, rk_gClC⟩, ⟨by decide +kernel, rk_gClV1⟩, ⟨by decide +kernel, rk_gClV2⟩, ⟨by decide +kernel, rk_gClV3⟩, ⟨by decide +kernel, rk_gF1⟩, ⟨by decide +kernel, rk_gFc1⟩, ⟨by decide +kernel, rk_gFc2⟩, ⟨by decide +kernel, rk_gFi1⟩, ⟨by decide +kernel, rk_gFi2⟩, ⟨by decide +kernel, rk_gFa1⟩, ⟨by decide +kernel, rk_gFa2⟩, ⟨by decide +kernel, rk_gFp0⟩, ⟨by decide +kernel, rk_gFp3⟩, ⟨by decide +kernel, rk_gFp1⟩, ⟨by decide +kernel, rk_gFq⟩, ⟨by decide +kernel, rk_gFe0⟩, ⟨by decide +kernel, rk_gFf0⟩, ⟨by decide +kernel, rk_gEn0⟩, ⟨by decide +kernel, rk_gFe1⟩, ⟨by decide +kernel, rk_gFf1⟩, trivial⟩, ⟨⟨by decide +kernel, rk_gEn1⟩, ⟨by decide +kernel, rk_gFe2⟩, ⟨by decide +kernel, rk_gFf2⟩, ⟨by decide +kernel, rk_gEn2⟩, ⟨by decide +kernel, rk_gFo0⟩, ⟨by decide +kernel, rk_gFo1⟩, ⟨by decide +kernel, rk_gFo2⟩, ⟨by decide +kernel, rk_gFo3⟩, ⟨by decide +kernel, rk_gFo4⟩, ⟨by decide +kernel, rk_nop⟩, ⟨by decide +kernel, rk_nog⟩, ⟨by decide +kernel, rk_not⟩, ⟨by decide +kernel, rk_nb1⟩, ⟨by decide +kernel, rk_nb2⟩, ⟨by decide +kernel, rk_nb3⟩, ⟨by decide +kernel, rk_nb4⟩, ⟨by decide +kernel, rk_nb5⟩, ⟨by decide +kernel, rk_nb6⟩, ⟨by decide +kernel, rk_nb7⟩, ⟨by decide +kernel, rk_nb8⟩, ⟨by decide +kernel, rk_nb9a⟩, ⟨by decide +kernel, rk_nb9b⟩, ⟨by decide +kernel, rk_nb9c⟩, ⟨by decide +kernel, rk_nbE⟩, trivial⟩, ⟨⟨by decide +kernel, rk_nbX⟩, ⟨by decide +kernel, rk_nbD⟩, ⟨by decide +kernel, rk_y0⟩, ⟨by decide +kernel, rk_y0a⟩, ⟨by decide +kernel, rk_y0b⟩, ⟨by decide +kernel, rk_y1⟩, ⟨by decide +kernel, rk_y1p⟩, ⟨by decide +kernel, rk_y1g⟩, ⟨by decide +kernel, rk_dp2⟩, ⟨by decide +kernel, rk_nv1⟩, ⟨by decide +kernel, rk_y1v⟩, ⟨by decide +kernel, rk_yqa⟩, ⟨by decide +kernel, rk_yqb⟩, ⟨by decide +kernel, rk_yqc⟩, ⟨by decide +kernel, rk_yqd⟩, ⟨by decide +kernel, rk_y1x⟩, ⟨by decide +kernel, rk_y1y⟩, ⟨by decide +kernel, rk_yqD⟩, ⟨by decide +kernel, rk_y20⟩, ⟨by decide +kernel, rk_y21⟩, ⟨by decide +kernel, rk_y22⟩, ⟨by decide +kernel, rk_y23⟩, ⟨by decide +kernel, rk_y2x0⟩, ⟨by decide +kernel, rk_y2x1⟩, trivial⟩, ⟨⟨by decide +kernel, rk_y2x2⟩, ⟨by decide +kernel, rk_y2x3⟩, ⟨by decide +kernel, rk_y3a⟩, ⟨by decide +kernel, rk_y3x1⟩, ⟨by decide +kernel, rk_y3y1⟩, ⟨by decide +kernel, rk_y3z1⟩, ⟨by decide +kernel, rk_y3x2⟩, ⟨by decide +kernel, rk_y3y2⟩, ⟨by decide +kernel, rk_y3z2⟩, ⟨by decide +kernel, rk_y3t⟩, ⟨by decide +kernel, rk_y6a⟩, ⟨by decide +kernel, rk_y6b⟩, ⟨by decide +kernel, rk_y6c⟩, ⟨by decide +kernel, rk_y4a⟩, ⟨by decide +kernel, rk_y4b⟩, ⟨by decide +kernel, rk_y4c⟩, ⟨by decide +kernel, rk_y7o⟩, ⟨by decide +kernel, rk_y7x⟩, ⟨by decide +kernel, rk_y5a15⟩, ⟨by decide +kernel, rk_y5b15⟩, ⟨by decide +kernel, rk_y5c15⟩, ⟨by decide +kernel, rk_y5a18⟩, ⟨by decide +kernel, rk_y5b18⟩, ⟨by decide +kernel, rk_y5c18⟩, trivial⟩, ⟨⟨by decide +kernel, rk_y9a⟩, ⟨by decide +kernel, rk_y9b⟩, ⟨by decide +kernel, rk_y9c⟩, ⟨by decide +kernel, rk_y9d⟩, ⟨by decide +kernel, rk_xD⟩, ⟨by decide +kernel, rk_yD⟩, ⟨by decide +kernel, rk_ma⟩, ⟨by decide +kernel, rk_mk0b⟩, ⟨by decide +kernel, rk_zF⟩, ⟨by decide +kernel, rk_zo1⟩, ⟨by decide +kernel, rk_zo2⟩, ⟨by decide +kernel, rk_zIn⟩, ⟨by decide +kernel, rk_z30⟩, ⟨by decide +kernel, rk_zy1⟩, ⟨by decide +kernel, rk_zy2⟩, ⟨by decide +kernel, rk_zyo⟩, ⟨by decide +kernel, rk_zyxB⟩, ⟨by decide +kernel, rk_zyx⟩, ⟨by decide +kernel, rk_z30B⟩, ⟨by decide +kernel, rk_z1eB⟩, ⟨by decide +kernel, rk_z1aB⟩, ⟨by decide +kernel, rk_z1bB⟩, ⟨by decide +kernel, rk_z1cB⟩, ⟨by decide +kernel, rk_z1e⟩, trivial⟩, ⟨⟨by decide +kernel, rk_z1s⟩, ⟨by decide +kernel, rk_z1a⟩, ⟨by decide +kernel, rk_z1b⟩, ⟨by decide +kernel, rk_z1c⟩, ⟨by decide +kernel, rk_zD⟩, ⟨by decide +kernel, rk_sp0⟩, ⟨by decide +kernel, rk_lA0⟩, ⟨by decide +kernel, rk_lA1⟩, ⟨by decide +kernel, rk_lA2⟩, ⟨by decide +kernel, rk_lA3⟩, ⟨by decide +kernel, rk_lA5⟩, ⟨by decide +kernel, rk_lA4⟩, ⟨by decide +kernel, rk_lOk⟩, ⟨by decide +kernel, rk_lBad⟩, ⟨by decide +kernel, rk_lEnd⟩, ⟨by decide +kernel, rk_ci⟩, ⟨by decide +kernel, rk_ps⟩, ⟨by decide +kernel, rk_pf⟩, ⟨by decide +kernel, rk_cc⟩, ⟨by decide +kernel, rk_dc⟩, ⟨by decide +kernel, rk_hk0⟩, ⟨by decide +kernel, rk_hk1⟩, ⟨by decide +kernel, rk_hk2⟩, ⟨by decide +kernel, rk_hk3⟩, trivial⟩, ⟨⟨by decide +kernel, rk_hk4⟩, ⟨by decide +kernel, rk_hk5⟩, ⟨by decide +kernel, rk_nx1⟩, ⟨by decide +kernel, rk_nx2⟩, ⟨by decide +kernel, rk_nx3⟩, ⟨by decide +kernel, rk_nxa⟩, ⟨by decide +kernel, rk_hs⟩, ⟨by decide +kernel, rk_hsL⟩, ⟨by decide +kernel, rk_hsG⟩, ⟨by decide +kernel, rk_hk0b⟩, ⟨by decide +kernel, rk_hk1b⟩, ⟨by decide +kernel, rk_hk4b⟩, ⟨by decide +kernel, rk_hk4c⟩, ⟨by decide +kernel, rk_hve⟩, ⟨by decide +kernel, rk_hw_no⟩, ⟨by decide +kernel, rk_hL_no⟩, ⟨by decide +kernel, rk_hG_no⟩, ⟨by decide +kernel, rk_hw_yes⟩, ⟨by decide +kernel, rk_hL_yes⟩, ⟨by decide +kernel, rk_hG_yes⟩, ⟨by decide +kernel, rk_hw_maybe⟩, ⟨by decide +kernel, rk_hL_maybe⟩, ⟨by decide +kernel, rk_hG_maybe⟩, ⟨by decide +kernel, rk_hw_any⟩, trivial⟩, ⟨⟨by decide +kernel, rk_hL_any⟩, ⟨by decide +kernel, rk_hG_any⟩, ⟨by decide +kernel, rk_hw_own⟩, ⟨by decide +kernel, rk_hL_own⟩, ⟨by decide +kernel, rk_hG_own⟩, ⟨by decide +kernel, rk_hw_all⟩, ⟨by decide +kernel, rk_hL_all⟩, ⟨by decide +kernel, rk_hG_all⟩, ⟨by decide +kernel, rk_hw_if⟩, ⟨by decide +kernel, rk_hL_if⟩, ⟨by decide +kernel, rk_hG_if⟩, ⟨by decide +kernel, rk_hw_not⟩, ⟨by decide +kernel, rk_hL_not⟩, ⟨by decide +kernel, rk_hG_not⟩, ⟨by decide +kernel, rk_hw_known⟩, ⟨by decide +kernel, rk_hL_known⟩, ⟨by decide +kernel, rk_hG_known⟩, ⟨by decide +kernel, rk_hw_me⟩, ⟨by decide +kernel, rk_hL_me⟩, ⟨by decide +kernel, rk_hG_me⟩, ⟨by decide +kernel, rk_hw_it⟩, ⟨by decide +kernel, rk_hL_it⟩, ⟨by decide +kernel, rk_hG_it⟩, ⟨by decide +kernel, rk_hw_now⟩, trivial⟩, ⟨⟨by decide +kernel, rk_hL_now⟩, ⟨by decide +kernel, rk_hG_now⟩, ⟨by decide +kernel, rk_hw_age⟩, ⟨by decide +kernel, rk_hL_age⟩, ⟨by decide +kernel, rk_hG_age⟩, ⟨by decide +kernel, rk_hw_size⟩, ⟨by decide +kernel, rk_hL_size⟩, ⟨by decide +kernel, rk_hG_size⟩, ⟨by decide +kernel, rk_hw_in⟩, ⟨by decide +kernel, rk_hL_in⟩, ⟨by decide +kernel, rk_hG_in⟩, ⟨by decide +kernel, rk_hw_and⟩, ⟨by decide +kernel, rk_hL_and⟩, ⟨by decide +kernel, rk_hG_and⟩, ⟨by decide +kernel, rk_hw_or⟩, ⟨by decide +kernel, rk_hL_or⟩, ⟨by decide +kernel, rk_hG_or⟩, ⟨by decide +kernel, rk_hw_must⟩, ⟨by decide +kernel, rk_hL_must⟩, ⟨by decide +kernel, rk_hG_must⟩, ⟨by decide +kernel, rk_hw_r⟩, ⟨by decide +kernel, rk_hw_w⟩, ⟨by decide +kernel, rk_hw_x⟩, ⟨by decide +kernel, rk_hw_d⟩, trivial⟩, ⟨⟨by decide +kernel, rk_hw_g⟩, ⟨by decide +kernel, rk_hw_o⟩, ⟨by decide +kernel, rk_hl⟩, ⟨by decide +kernel, rk_h1L⟩, ⟨by decide +kernel, rk_h1G⟩, ⟨by decide +kernel, rk_toB⟩, ⟨by decide +kernel, rk_toA⟩, ⟨by decide +kernel, rk_bA⟩, ⟨by decide +kernel, rk_toA2⟩, ⟨by decide +kernel, rk_toF⟩, ⟨by decide +kernel, rk_pz⟩, ⟨by decide +kernel, rk_s1xx⟩, ⟨by decide +kernel, rk_pm⟩, ⟨by decide +kernel, rk_cpA⟩, ⟨by decide +kernel, rk_dA⟩, ⟨by decide +kernel, rk_dB⟩, ⟨by decide +kernel, rk_dI⟩, ⟨by decide +kernel, rk_gA0_0⟩, ⟨by decide +kernel, rk_gA0_1⟩, ⟨by decide +kernel, rk_gA1_0⟩, ⟨by decide +kernel, rk_gA1_1⟩, ⟨by decide +kernel, rk_gA3_0⟩, ⟨by decide +kernel, rk_gA3_1⟩, ⟨by decide +kernel, rk_gA5_0⟩, trivial⟩, ⟨⟨by decide +kernel, rk_gA5_1⟩, ⟨by decide +kernel, rk_gA6_0⟩, ⟨by decide +kernel, rk_gA6_1⟩, ⟨by decide +kernel, rk_gA9_0⟩, ⟨by decide +kernel, rk_gA9_1⟩, ⟨by decide +kernel, rk_gA2⟩, ⟨by decide +kernel, rk_tN⟩, ⟨by decide +kernel, rk_tW⟩, ⟨by decide +kernel, rk_tS⟩, ⟨by decide +kernel, rk_tIa⟩, ⟨by decide +kernel, rk_tIb⟩, ⟨by decide +kernel, rk_tIc⟩, ⟨by decide +kernel, rk_tId⟩, ⟨by decide +kernel, rk_nDa⟩, ⟨by decide +kernel, rk_nDb⟩, ⟨by decide +kernel, rk_nMi⟩, ⟨by decide +kernel, rk_nPa⟩, ⟨by decide +kernel, rk_c25x⟩, ⟨by decide +kernel, rk_c25o⟩, ⟨by decide +kernel, rk_c25na⟩, ⟨by decide +kernel, rk_c25nb⟩, ⟨by decide +kernel, rk_c21x⟩, ⟨by decide +kernel, rk_c21o⟩, ⟨by decide +kernel, rk_c21na⟩, trivial⟩, ⟨⟨by decide +kernel, rk_c21nb⟩, ⟨by decide +kernel, rk_iX⟩, ⟨by decide +kernel, rk_iNa⟩, ⟨by decide +kernel, rk_iNb⟩, ⟨by decide +kernel, rk_iD⟩, ⟨by decide +kernel, rk_iB⟩, ⟨by decide +kernel, rk_s1x⟩, ⟨by decide +kernel, rk_s1o⟩, ⟨by decide +kernel, rk_s1g⟩, ⟨by decide +kernel, rk_s1e⟩, ⟨by decide +kernel, rk_s1f⟩, ⟨by decide +kernel, rk_bA1⟩, ⟨by decide +kernel, rk_s3x⟩, ⟨by decide +kernel, rk_s3o⟩, ⟨by decide +kernel, rk_s3g⟩, ⟨by decide +kernel, rk_s3e⟩, ⟨by decide +kernel, rk_s3f⟩, ⟨by decide +kernel, rk_bA3⟩, ⟨by decide +kernel, rk_mX⟩, ⟨by decide +kernel, rk_mI⟩, ⟨by decide +kernel, rk_mC⟩, ⟨by decide +kernel, rk_mNa⟩, ⟨by decide +kernel, rk_mNb⟩, ⟨by decide +kernel, rk_mNc⟩, trivial⟩, ⟨⟨by decide +kernel, rk_uDa⟩, ⟨by decide +kernel, rk_uDb⟩, ⟨by decide +kernel, rk_uN⟩, ⟨by decide +kernel, rk_uK⟩, ⟨by decide +kernel, rk_uCa⟩, ⟨by decide +kernel, rk_uCb⟩, ⟨by decide +kernel, rk_uCc⟩, ⟨by decide +kernel, rk_bP⟩, ⟨by decide +kernel, rk_bO⟩, ⟨by decide +kernel, rk_bFx⟩, ⟨by decide +kernel, rk_bFa⟩, ⟨by decide +kernel, rk_bFb⟩, ⟨by decide +kernel, rk_bR⟩, ⟨by decide +kernel, rk_bC⟩, ⟨by decide +kernel, rk_bM1⟩, ⟨by decide +kernel, rk_bM2⟩, ⟨by decide +kernel, rk_e1⟩, ⟨by decide +kernel, rk_e1a⟩, ⟨by decide +kernel, rk_e1b⟩, ⟨by decide +kernel, rk_e2⟩, ⟨by decide +kernel, rk_e2a⟩, ⟨by decide +kernel, rk_e2b⟩, ⟨by decide +kernel, rk_e3⟩, ⟨by decide +kernel, rk_e3a⟩, trivial⟩, ⟨⟨by decide +kernel, rk_e3b⟩, ⟨by decide +kernel, rk_hnp⟩, ⟨by decide +kernel, rk_hng⟩, ⟨by decide +kernel, rk_hnt⟩, ⟨by decide +kernel, rk_hb1⟩, ⟨by decide +kernel, rk_hb2⟩, ⟨by decide +kernel, rk_txp⟩, ⟨by decide +kernel, rk_txk⟩, ⟨by decide +kernel, rk_hpL⟩, ⟨by decide +kernel, rk_hb5⟩, ⟨by decide +kernel, rk_hb6⟩, ⟨by decide +kernel, rk_hve2⟩, ⟨by decide +kernel, rk_hb7⟩, ⟨by decide +kernel, rk_hb8⟩, ⟨by decide +kernel, rk_hb9a⟩, ⟨by decide +kernel, rk_hb9b⟩, ⟨by decide +kernel, rk_hb9c⟩, ⟨by decide +kernel, rk_hbE⟩, ⟨by decide +kernel, rk_q0⟩, ⟨by decide +kernel, rk_q0a⟩, ⟨by decide +kernel, rk_q0b⟩, ⟨by decide +kernel, rk_q1⟩, ⟨by decide +kernel, rk_nvH⟩, ⟨by decide +kernel, rk_nvc⟩, trivial⟩, ⟨⟨by decide +kernel, rk_nvd⟩, ⟨by decide +kernel, rk_q1v⟩, ⟨by decide +kernel, rk_q1g⟩, ⟨by decide +kernel, rk_qqa⟩, ⟨by decide +kernel, rk_qqb⟩, ⟨by decide +kernel, rk_qqc⟩, ⟨by decide +kernel, rk_qqd⟩, ⟨by decide +kernel, rk_q1x⟩, ⟨by decide +kernel, rk_q1y⟩, ⟨by decide +kernel, rk_q20⟩, ⟨by decide +kernel, rk_q21⟩, ⟨by decide +kernel, rk_q22⟩, ⟨by decide +kernel, rk_q23⟩, ⟨by decide +kernel, rk_q2x0⟩, ⟨by decide +kernel, rk_q2x1⟩, ⟨by decide +kernel, rk_q2x2⟩, ⟨by decide +kernel, rk_q2x3⟩, ⟨by decide +kernel, rk_q3a⟩, ⟨by decide +kernel, rk_q3x1⟩, ⟨by decide +kernel, rk_q3y1⟩, ⟨by decide +kernel, rk_q3z1⟩, ⟨by decide +kernel, rk_q3x2⟩, ⟨by decide +kernel, rk_q3y2⟩, ⟨by decide +kernel, rk_q3z2⟩, trivial⟩, ⟨⟨by decide +kernel, rk_q3t⟩, ⟨by decide +kernel, rk_q6a⟩, ⟨by decide +kernel, rk_q6b⟩, ⟨by decide +kernel, rk_q6c⟩, ⟨by decide +kernel, rk_q4a⟩, ⟨by decide +kernel, rk_q4b⟩, ⟨by decide +kernel, rk_q4c⟩, ⟨by decide +kernel, rk_q7o⟩, ⟨by decide +kernel, rk_q7x⟩, ⟨by decide +kernel, rk_gA3z⟩, ⟨by decide +kernel, rk_q5a15⟩, ⟨by decide +kernel, rk_q5b15⟩, ⟨by decide +kernel, rk_q5c15⟩, ⟨by decide +kernel, rk_q5a18⟩, ⟨by decide +kernel, rk_q5b18⟩, ⟨by decide +kernel, rk_q5c18⟩, ⟨by decide +kernel, rk_q9a⟩, ⟨by decide +kernel, rk_q9b⟩, ⟨by decide +kernel, rk_q9c⟩, ⟨by decide +kernel, rk_q9d⟩, ⟨by decide +kernel, rk_bAr⟩, ⟨by decide +kernel, rk_k2c⟩, ⟨by decide +kernel, rk_hk2c⟩, ⟨by decide +kernel, rk_hz0⟩, trivial⟩, ⟨⟨by decide +kernel, rk_hzy⟩, ⟨by decide +kernel, rk_hzo⟩, ⟨by decide +kernel, rk_hzx⟩, ⟨by decide +kernel, rk_hze⟩, ⟨by decide +kernel, rk_hzs⟩, ⟨by decide +kernel, rk_hza⟩, ⟨by decide +kernel, rk_hzb⟩, ⟨by decide +kernel, rk_hzc⟩, ⟨by decide +kernel, rk_hz30⟩, ⟨by decide +kernel, rk_hzD⟩, ⟨by decide +kernel, rk_f4s⟩, ⟨by decide +kernel, rk_f4g⟩, ⟨by decide +kernel, rk_f4D⟩, trivial⟩, trivial⟩
noncomputable def CS : List Cp := [cz 310 120 16, cz 311 201 4, cl 320 196, cf 110 148 211 210 206, cg9 110 112 183 144, ctr 125 110 20 26, cr QQ, cu 24 25 26, ceq PE9, ceqL PL9, ck 11 0 (-4), cn 110 26 20, cb 125 128, co 125, cR 1100 1209 RWg SR WG]
noncomputable def evk (s : Sy) (a : AV) : Bool := match a with
  | .inl (id, _) => Nat.blt id s.nx
  | .inr (.inl _) => true
  | _ => false
theorem evk_ok {J : Jt} {s : Sy} {ρ : List Int} {σ : zS} {a : AV} (ho : Ok J s ρ σ) (h : evk s a = true) : ∃ z, ev ρ a = some z := by
  rcases a with ⟨id, o⟩ | n | ⟨_, _⟩ | _ | _ | ⟨_, _⟩
  · have h1 : id < ρ.length := by rw [ho.len]; exact Nat.le_of_ble_eq_true h
    refine ⟨ρ[id] + o, ?_⟩
    simp only [ev, List.getElem?_eq_getElem h1]
  · exact ⟨n, rfl⟩
  · cases h
  · cases h
  · cases h
  · cases h
noncomputable def hxg_0 (h : Nat × (Nat × Nat)) (f : Fm) (s : Sy) : Option Sy :=
  bif Nat.beq h.1 1 then TJ.tg f h.2.1 s
  else bif Nat.beq h.1 10 then (bif Nat.beq h.2.1 310 then some (hz10 310 16 s) else bif Nat.beq h.2.1 311 then some (hz10 311 4 s) else some s)
  else bif Nat.beq h.1 11 then (bif Nat.beq h.2.1 310 then some (h11 310 s) else bif Nat.beq h.2.1 311 then some (h11 311 s) else bif Nat.beq h.2.1 320 then some (h11 320 s) else bif Nat.ble 300 h.2.1 && Nat.ble h.2.1 304 then some (h11 h.2.1 s) else some s)
  else bif Nat.beq h.1 13 then some (hl13 320 s)
  else bif Nat.beq h.1 14 then some (hl14 320 s)
  else bif Nat.beq h.1 15 then (match lk s.hl 320 with
    | some a => some (hl15 196 a s.me s)
    | none => some s)
  else bif Nat.beq h.1 16 then (bif Nat.beq h.2.1 310 then (match lk s.hl 310 with
    | some a => hz16 120 16 a s.me s
    | none => some s) else match lk s.hl 311 with
    | some a => hz16 201 4 a s.me s
    | none => some s)
  else some s
noncomputable def hxg_1 (h : Nat × (Nat × Nat)) (f : Fm) (s : Sy) : Option Sy :=
  bif Nat.beq h.1 17 then some (hl17 320 196 s)
  else bif Nat.beq h.1 18 then some (hf18 110 148 211 210 206 s.me s)
  else bif Nat.beq h.1 20 then some (hg20 s)
  else bif Nat.beq h.1 21 then some (hg21 110 112 144 s)
  else bif Nat.beq h.1 22 then (match f.st with
    | a :: _ => bif evk s a then some (ht22 110 26 a s) else some s
    | [] => some s)
  else bif Nat.beq h.1 23 then (match f.st with
    | a :: _ => bif evk s a then some (ht23 125 110 26 a s) else some s
    | [] => some s)
  else bif Nat.beq h.1 25 then (match f.st, lget f.lv h.2.1 with
    | a :: _, some b => bif evk s a && evk s b then some (ht25 a b s) else some s
    | _, _ => some s)
  else some s
noncomputable def hxg_2 (h : Nat × (Nat × Nat)) (f : Fm) (s : Sy) : Option Sy :=
  bif Nat.beq h.1 26 then (match f.st with
    | a :: _ => bif evk s a then some (ht26 125 a s) else some s
    | [] => some s)
  else bif Nat.beq h.1 30 then some (h30 s.fa s)
  else bif Nat.beq h.1 31 then hr31 QQ s
  else bif Nat.beq h.1 32 then some (hr32 QQ s)
  else bif Nat.beq h.1 33 then some (hr33 QQ s)
  else bif Nat.beq h.1 34 then some (hr34 s)
  else bif Nat.beq h.1 35 then some (hr35 s)
  else some s
noncomputable def hxg_3 (h : Nat × (Nat × Nat)) (f : Fm) (s : Sy) : Option Sy :=
  bif Nat.beq h.1 36 then (match lget f.lv h.2.1 with
    | some r => bif evk s r then some (hr36 QQ r s) else some s
    | none => some s)
  else bif Nat.beq h.1 37 then some (hr37 QQ h.2.1 s)
  else bif Nat.beq h.1 38 then some (hr38 QQ s)
  else bif Nat.beq h.1 39 then some (hr39 s)
  else bif Nat.beq h.1 40 then (match lget f.lv h.2.1, lget f.lv h.2.2 with
    | some p, some r => bif evk s p && evk s r then some (hr40 QQ p r s) else some s
    | _, _ => some s)
  else bif Nat.beq h.1 41 then some (hr41 QQ s)
  else bif Nat.beq h.1 42 then some (hr42 QQ s)
  else some s
noncomputable def hxg_4 (h : Nat × (Nat × Nat)) (f : Fm) (s : Sy) : Option Sy :=
  bif Nat.beq h.1 43 then some (hr43 s)
  else bif Nat.beq h.1 44 then some (hr44 QQ true h.2.1 h.2.2 s)
  else bif Nat.beq h.1 45 then some (h45a s.fa s.fa s)
  else bif Nat.beq h.1 46 then some (hr44 QQ false h.2.1 h.2.2 s)
  else bif Nat.beq h.1 50 then some (hu50 s)
  else bif Nat.beq h.1 51 then some (hu51 25 s)
  else bif Nat.beq h.1 52 then (match f.st with
    | a :: _ => bif evk s a then some (hu52 24 25 26 a s) else some s
    | [] => some s)
  else some s
noncomputable def hxg_5 (h : Nat × (Nat × Nat)) (f : Fm) (s : Sy) : Option Sy :=
  bif Nat.beq h.1 54 then some (hu54 17 14 24 25 26 s)
  else bif Nat.beq h.1 55 then some (hu55 17 14 25 s)
  else bif Nat.beq h.1 56 then some (hu56 s)
  else bif Nat.beq h.1 57 then some (hu57 s)
  else bif Nat.beq h.1 58 then some (hu58 17 14 15 0 25 s)
  else bif Nat.beq h.1 59 then hu59 17 15 s
  else bif Nat.beq h.1 60 then some (hsAllL PL9 (hsAll PE9 s))
  else some s
noncomputable def hxg_6 (h : Nat × (Nat × Nat)) (f : Fm) (s : Sy) : Option Sy :=
  bif Nat.beq h.1 62 then (match f.st[h.2.2]? with
    | some a => bif evk s a then some (hopL h.2.1 a PE9 s) else some s
    | none => some s)
  else bif Nat.beq h.1 63 then h63 11 0 (-4) s
  else bif Nat.beq h.1 64 then h64 110 26 20 s
  else bif Nat.beq h.1 70 then (match lget f.lv h.2.1 with
    | some a => bif evk s a then some (h70 a h.2.2 s) else some s
    | none => some s)
  else bif Nat.beq h.1 71 then (match lget f.lv h.2.1 with
    | some a => bif evk s a && leAV s (.c 0) a then some (h71 125 128 a s) else some s
    | none => some s)
  else bif Nat.beq h.1 72 then (match lget f.lv h.2.1 with
    | some a => bif evk s a && leAV s (.c 0) a then some (h72 125 128 a s) else some s
    | none => some s)
  else bif Nat.beq h.1 73 then (match lget f.lv h.2.1 with
    | some a => bif evk s a && leAV s (.c 0) a then h73 125 128 a s else some s
    | none => some s)
  else some s
noncomputable def hxg_7 (h : Nat × (Nat × Nat)) (f : Fm) (s : Sy) : Option Sy :=
  bif Nat.beq h.1 74 then h74 s
  else bif Nat.beq h.1 75 then some (h75 s)
  else bif Nat.beq h.1 76 then some (h76 s)
  else bif Nat.beq h.1 80 then (match f.st with
    | a :: _ => bif evk s a then some (h80 110 26 a s) else some s
    | [] => some s)
  else bif Nat.beq h.1 81 then h81 110 26 s
  else bif Nat.beq h.1 82 then h82 125 110 26 s
  else bif Nat.beq h.1 83 then (match f.st with
    | a :: _ => bif evk s a then some (h83 a s) else some s
    | [] => some s)
  else some s
noncomputable def hxg_8 (h : Nat × (Nat × Nat)) (f : Fm) (s : Sy) : Option Sy :=
  bif Nat.beq h.1 84 then (match f.st with
    | a :: _ => bif evk s a then some (h84 125 a s) else some s
    | [] => some s)
  else bif Nat.beq h.1 85 then some (h85 s)
  else bif Nat.beq h.1 86 then some (h86 s)
  else bif Nat.beq h.1 87 then (match f.st with
    | a :: _ => bif evk s a then some (h87 125 a s) else some s
    | [] => some s)
  else bif Nat.beq h.1 88 then (match f.st with
    | a :: _ => bif evk s a then some (h88 125 a s) else some s
    | [] => some s)
  else bif Nat.beq h.1 89 then h89 s
  else bif Nat.beq h.1 90 then h90 s
  else some s
noncomputable def hxg_9 (h : Nat × (Nat × Nat)) (f : Fm) (s : Sy) : Option Sy :=
  bif Nat.beq h.1 92 then some (h92 s)
  else bif Nat.ble 300 h.1 then (match RGT.get h.1 with
    | some R => ruA RWg R (f.lv, (f.st, (.c 0, .c 0))) s
    | none => some s)
  else some s
noncomputable def hxT (h : Nat × (Nat × Nat)) (f : Fm) (s : Sy) : Option Sy :=
  bif Nat.ble h.1 16 then hxg_0 h f s
  else bif Nat.ble h.1 25 then hxg_1 h f s
  else bif Nat.ble h.1 35 then hxg_2 h f s
  else bif Nat.ble h.1 42 then hxg_3 h f s
  else bif Nat.ble h.1 52 then hxg_4 h f s
  else bif Nat.ble h.1 60 then hxg_5 h f s
  else bif Nat.ble h.1 73 then hxg_6 h f s
  else bif Nat.ble h.1 83 then hxg_7 h f s
  else bif Nat.ble h.1 90 then hxg_8 h f s
  else hxg_9 h f s
noncomputable def trT (t k : Nat) : Bool := (Nat.beq t 310 && Nat.beq k 120) || ((Nat.beq t 311 && Nat.beq k 201) || ((Nat.beq t 320 && Nat.beq k 196) || (((Nat.ble 300 t && Nat.ble t 304) && Nat.beq k 125) || ((((Nat.ble 312 t && Nat.ble t 314) || (Nat.ble 321 t && Nat.ble t 328)) && (Nat.beq k 141 || (Nat.beq k 139 || (Nat.beq k 140 || Nat.beq k 148)))) || ((Nat.beq t 306 || Nat.beq t 307) && (Nat.beq k 24 || (Nat.beq k 25 || Nat.beq k 26)))))))
noncomputable def GG : Gl := mkG [] []
noncomputable def GX : Gx := mkX (TJ.P GG (cW CS)) hxT CTT trT
noncomputable abbrev JJ : Jt := Jf TJ GG (cS CS)
theorem row_in {k kd n : Nat} (h : GG.ka.get k = some (kd, n)) : ∀ j, InB GG k j → j < n := by
  intro j hj
  rcases hj with ⟨q, _⟩ | ⟨kd', z, q, hj⟩
  · rw [h] at q; cases q
  · rw [h] at q; cases Option.some.inj q; exact hj
theorem hR30 {σ : zS} (hb : Bd TJ GG σ) : ∀ q : Nat, q < 8 → Pp σ 131 q ≤ 30 := by
  intro q hq
  have hk : GG.ka.get 131 = some (100, 8) := by decide +kernel
  have hc : TJ.co.get 131 = none := by decide +kernel
  have := hb 131 q (Or.inr ⟨100, 8, hk, hq⟩)
  have e : TJ.bd GG 131 q = [(0, 30)] := by
    unfold Jx.bd
    rw [hk, hc]
    show (TJ.ai.get 131).getD T32 = _
    decide +kernel
  rw [e] at this
  exact (inD_one this).2
theorem bS12 {σ : zS} (hb : Bd TJ GG σ) : ∀ q : Nat, q < 1201 → inD (σ.1 25 q).toInt [(0, 1200)] := by
  intro q hq
  have hk : GG.ka.get 25 = some (100, 1201) := by decide +kernel
  have hc : TJ.co.get 25 = none := by decide +kernel
  have := hb 25 q (Or.inr ⟨100, 1201, hk, hq⟩)
  have e : TJ.bd GG 25 q = [(0, 1200)] := by
    unfold Jx.bd
    rw [hk, hc]
    show (TJ.ai.get 25).getD T32 = _
    decide +kernel
  rw [e] at this
  exact this
theorem CS_ok : ∀ c ∈ CS, CpOk TJ GG c := by
  intro c hc
  rcases List.mem_cons.mp hc with rfl | hc
  · exact cz_ok (by decide) (row_in (kd := 102) (by decide +kernel))
  rcases List.mem_cons.mp hc with rfl | hc
  · exact cz_ok (by decide) (row_in (kd := 102) (by decide +kernel))
  rcases List.mem_cons.mp hc with rfl | hc
  · exact cl_ok (by decide)
  rcases List.mem_cons.mp hc with rfl | hc
  · exact cf_ok (by decide) (by decide) (by decide) (by decide) (by decide) (by decide)
  rcases List.mem_cons.mp hc with rfl | hc
  · exact cg9_ok (by decide) (row_in (kd := 100) (by decide +kernel))
  rcases List.mem_cons.mp hc with rfl | hc
  · exact ctr_ok (by decide) (by decide) (row_in (kd := 100) (by decide +kernel))
  rcases List.mem_cons.mp hc with rfl | hc
  · exact cr_ok (by decide) (fun σ hb => hR30 hb)
  rcases List.mem_cons.mp hc with rfl | hc
  · exact cu_ok
  rcases List.mem_cons.mp hc with rfl | hc
  · exact ceq_ok (by decide) PE9_apt (by decide)
  rcases List.mem_cons.mp hc with rfl | hc
  · exact ceqL_ok (by decide) PL9_apt (by decide)
  rcases List.mem_cons.mp hc with rfl | hc
  · exact ck_ok
  rcases List.mem_cons.mp hc with rfl | hc
  · exact cn_ok (by decide)
  rcases List.mem_cons.mp hc with rfl | hc
  · exact cb_ok
  rcases List.mem_cons.mp hc with rfl | hc
  · exact co_ok
  rcases List.mem_cons.mp hc with rfl | hc
  · exact cR_ok (by decide) WG_ok
  · cases hc
theorem tgC {t : Nat} (h : (ctr 125 110 20 26 : Cp).tg t = true) : t = 300 ∨ t = 301 ∨ t = 302 ∨ t = 303 ∨ t = 304 ∨ t = 340 := by
  have h : ((Nat.ble 300 t && Nat.ble t 304) || Nat.beq t 340) = true := h
  simp only [Bool.or_eq_true, Bool.and_eq_true] at h
  rcases h with ⟨h1, h2⟩ | h
  · have h1 := Nat.le_of_ble_eq_true h1
    have h2 := Nat.le_of_ble_eq_true h2
    omega
  · have := Nat.eq_of_beq_eq_true h
    omega
theorem tgQ {t : Nat} (h : qtg t = true) : t = 312 ∨ t = 313 ∨ t = 314 ∨ t = 321 ∨ t = 322 ∨ t = 323 ∨ t = 324 ∨ t = 325 ∨ t = 326 ∨ t = 327 ∨ t = 328 ∨ t = 341 := by
  have h : ((Nat.ble 312 t && Nat.ble t 314) || ((Nat.ble 321 t && Nat.ble t 328) || Nat.beq t 341)) = true := h
  simp only [Bool.or_eq_true, Bool.and_eq_true] at h
  rcases h with ⟨h1, h2⟩ | ⟨h1, h2⟩ | h
  · have h1 := Nat.le_of_ble_eq_true h1
    have h2 := Nat.le_of_ble_eq_true h2
    omega
  · have h1 := Nat.le_of_ble_eq_true h1
    have h2 := Nat.le_of_ble_eq_true h2
    omega
  · have := Nat.eq_of_beq_eq_true h
    omega
theorem tgU {t : Nat} (h : utg t = true) : t = 306 ∨ t = 307 := by
  have h : (Nat.beq t 306 || Nat.beq t 307) = true := h
  rw [Bool.or_eq_true] at h
  rcases h with h | h
  · exact Or.inl (Nat.eq_of_beq_eq_true h)
  · exact Or.inr (Nat.eq_of_beq_eq_true h)
theorem etg_rg {t : Nat} (h : (ceq PE9 : Cp).tg t = true) : 400 ≤ t ∧ t < 500 := by
  have h : (Nat.ble 400 t && Nat.blt t 500) = true := h
  rw [Bool.and_eq_true] at h
  have h1 := Nat.le_of_ble_eq_true h.1
  have h2 := Nat.le_of_ble_eq_true h.2
  omega
theorem etg_f {t : Nat} (h : t < 400 ∨ 500 ≤ t) : (ceq PE9 : Cp).tg t = false := by
  cases e : (ceq PE9 : Cp).tg t with
  | false => rfl
  | true =>
    have := etg_rg e
    omega
theorem ltg_rg {t : Nat} (h : (ceqL PL9 : Cp).tg t = true) : 600 ≤ t ∧ t < 800 := by
  have h : (Nat.ble 600 t && Nat.blt t 800) = true := h
  rw [Bool.and_eq_true] at h
  have h1 := Nat.le_of_ble_eq_true h.1
  have h2 := Nat.le_of_ble_eq_true h.2
  omega
theorem ltg_f {t : Nat} (h : t < 600 ∨ 800 ≤ t) : (ceqL PL9 : Cp).tg t = false := by
  cases e : (ceqL PL9 : Cp).tg t with
  | false => rfl
  | true =>
    have := ltg_rg e
    omega
theorem btg_rg {t : Nat} (h : (cb 125 128 : Cp).tg t = true) : 510 ≤ t ∧ t < 513 := by
  have h : (Nat.ble 510 t && Nat.ble t 512) = true := h
  rw [Bool.and_eq_true] at h
  have h1 := Nat.le_of_ble_eq_true h.1
  have h2 := Nat.le_of_ble_eq_true h.2
  omega
theorem btg_f {t : Nat} (h : t < 510 ∨ 513 ≤ t) : (cb 125 128 : Cp).tg t = false := by
  cases e : (cb 125 128 : Cp).tg t with
  | false => rfl
  | true =>
    have := btg_rg e
    omega
theorem otg_rg {t : Nat} (h : (co 125 : Cp).tg t = true) : 520 ≤ t ∧ t < 526 := by
  have h : (Nat.ble 520 t && Nat.ble t 525) = true := h
  rw [Bool.and_eq_true] at h
  have h1 := Nat.le_of_ble_eq_true h.1
  have h2 := Nat.le_of_ble_eq_true h.2
  omega
theorem otg_f {t : Nat} (h : t < 520 ∨ 526 ≤ t) : (co 125 : Cp).tg t = false := by
  cases e : (co 125 : Cp).tg t with
  | false => rfl
  | true =>
    have := otg_rg e
    omega
theorem rtg_rg {t : Nat} (h : (cR 1100 1209 RWg SR WG : Cp).tg t = true) : 1100 ≤ t ∧ t < 1210 := by
  have h : (Nat.ble 1100 t && Nat.ble t 1209) = true := h
  rw [Bool.and_eq_true] at h
  have h1 := Nat.le_of_ble_eq_true h.1
  have h2 := Nat.le_of_ble_eq_true h.2
  omega
theorem rtg_f {t : Nat} (h : t < 1100 ∨ 1210 ≤ t) : (cR 1100 1209 RWg SR WG : Cp).tg t = false := by
  cases e : (cR 1100 1209 RWg SR WG : Cp).tg t with
  | false => rfl
  | true =>
    have := rtg_rg e
    omega
theorem apt_0 : ∀ c' ∈ ([cz 311 201 4, cl 320 196, cf 110 148 211 210 206, cg9 110 112 183 144, ctr 125 110 20 26, cr QQ, cu 24 25 26, ceq PE9, ceqL PL9, ck 11 0 (-4), cn 110 26 20, cb 125 128, co 125, cR 1100 1209 RWg SR WG] : List Cp), ∀ t, (cz 310 120 16 : Cp).tg t = true → c'.tg t = false := by
  intro c' hc t ht
  have e : t = 310 := Nat.eq_of_beq_eq_true ht
  subst e
  rcases List.mem_cons.mp hc with rfl | hc
  · rfl
  rcases List.mem_cons.mp hc with rfl | hc
  · rfl
  rcases List.mem_cons.mp hc with rfl | hc
  · rfl
  rcases List.mem_cons.mp hc with rfl | hc
  · rfl
  rcases List.mem_cons.mp hc with rfl | hc
  · rfl
  rcases List.mem_cons.mp hc with rfl | hc
  · rfl
  rcases List.mem_cons.mp hc with rfl | hc
  · rfl
  rcases List.mem_cons.mp hc with rfl | hc
  · exact etg_f (by omega)
  rcases List.mem_cons.mp hc with rfl | hc
  · exact ltg_f (by omega)
  rcases List.mem_cons.mp hc with rfl | hc
  · rfl
  rcases List.mem_cons.mp hc with rfl | hc
  · rfl
  rcases List.mem_cons.mp hc with rfl | hc
  · exact btg_f (by omega)
  rcases List.mem_cons.mp hc with rfl | hc
  · exact otg_f (by omega)
  rcases List.mem_cons.mp hc with rfl | hc
  · exact rtg_f (by omega)
  · cases hc
theorem apt_1 : ∀ c' ∈ ([cl 320 196, cf 110 148 211 210 206, cg9 110 112 183 144, ctr 125 110 20 26, cr QQ, cu 24 25 26, ceq PE9, ceqL PL9, ck 11 0 (-4), cn 110 26 20, cb 125 128, co 125, cR 1100 1209 RWg SR WG] : List Cp), ∀ t, (cz 311 201 4 : Cp).tg t = true → c'.tg t = false := by
  intro c' hc t ht
  have e : t = 311 := Nat.eq_of_beq_eq_true ht
  subst e
  rcases List.mem_cons.mp hc with rfl | hc
  · rfl
  rcases List.mem_cons.mp hc with rfl | hc
  · rfl
  rcases List.mem_cons.mp hc with rfl | hc
  · rfl
  rcases List.mem_cons.mp hc with rfl | hc
  · rfl
  rcases List.mem_cons.mp hc with rfl | hc
  · rfl
  rcases List.mem_cons.mp hc with rfl | hc
  · rfl
  rcases List.mem_cons.mp hc with rfl | hc
  · exact etg_f (by omega)
  rcases List.mem_cons.mp hc with rfl | hc
  · exact ltg_f (by omega)
  rcases List.mem_cons.mp hc with rfl | hc
  · rfl
  rcases List.mem_cons.mp hc with rfl | hc
  · rfl
  rcases List.mem_cons.mp hc with rfl | hc
  · exact btg_f (by omega)
  rcases List.mem_cons.mp hc with rfl | hc
  · exact otg_f (by omega)
  rcases List.mem_cons.mp hc with rfl | hc
  · exact rtg_f (by omega)
  · cases hc
theorem apt_2 : ∀ c' ∈ ([cf 110 148 211 210 206, cg9 110 112 183 144, ctr 125 110 20 26, cr QQ, cu 24 25 26, ceq PE9, ceqL PL9, ck 11 0 (-4), cn 110 26 20, cb 125 128, co 125, cR 1100 1209 RWg SR WG] : List Cp), ∀ t, (cl 320 196 : Cp).tg t = true → c'.tg t = false := by
  intro c' hc t ht
  have e : t = 320 := Nat.eq_of_beq_eq_true ht
  subst e
  rcases List.mem_cons.mp hc with rfl | hc
  · rfl
  rcases List.mem_cons.mp hc with rfl | hc
  · rfl
  rcases List.mem_cons.mp hc with rfl | hc
  · rfl
  rcases List.mem_cons.mp hc with rfl | hc
  · rfl
  rcases List.mem_cons.mp hc with rfl | hc
  · rfl
  rcases List.mem_cons.mp hc with rfl | hc
  · exact etg_f (by omega)
  rcases List.mem_cons.mp hc with rfl | hc
  · exact ltg_f (by omega)
  rcases List.mem_cons.mp hc with rfl | hc
  · rfl
  rcases List.mem_cons.mp hc with rfl | hc
  · rfl
  rcases List.mem_cons.mp hc with rfl | hc
  · exact btg_f (by omega)
  rcases List.mem_cons.mp hc with rfl | hc
  · exact otg_f (by omega)
  rcases List.mem_cons.mp hc with rfl | hc
  · exact rtg_f (by omega)
  · cases hc
theorem apt_4 : ∀ c' ∈ ([ctr 125 110 20 26, cr QQ, cu 24 25 26, ceq PE9, ceqL PL9, ck 11 0 (-4), cn 110 26 20, cb 125 128, co 125, cR 1100 1209 RWg SR WG] : List Cp), ∀ t, (cg9 110 112 183 144 : Cp).tg t = true → c'.tg t = false := by
  intro c' hc t ht
  have ht : (Nat.beq t 330 || Nat.beq t 331) = true := ht
  rw [Bool.or_eq_true] at ht
  rcases List.mem_cons.mp hc with rfl | hc
  · rcases ht with ht | ht <;> rw [Nat.eq_of_beq_eq_true ht] <;> rfl
  rcases List.mem_cons.mp hc with rfl | hc
  · rcases ht with ht | ht <;> rw [Nat.eq_of_beq_eq_true ht] <;> rfl
  rcases List.mem_cons.mp hc with rfl | hc
  · rcases ht with ht | ht <;> rw [Nat.eq_of_beq_eq_true ht] <;> rfl
  rcases List.mem_cons.mp hc with rfl | hc
  · rcases ht with ht | ht <;> rw [Nat.eq_of_beq_eq_true ht] <;> exact etg_f (by omega)
  rcases List.mem_cons.mp hc with rfl | hc
  · rcases ht with ht | ht <;> rw [Nat.eq_of_beq_eq_true ht] <;> exact ltg_f (by omega)
  rcases List.mem_cons.mp hc with rfl | hc
  · rcases ht with ht | ht <;> rw [Nat.eq_of_beq_eq_true ht] <;> rfl
  rcases List.mem_cons.mp hc with rfl | hc
  · rcases ht with ht | ht <;> rw [Nat.eq_of_beq_eq_true ht] <;> rfl
  rcases List.mem_cons.mp hc with rfl | hc
  · rcases ht with ht | ht <;> rw [Nat.eq_of_beq_eq_true ht] <;> exact btg_f (by omega)
  rcases List.mem_cons.mp hc with rfl | hc
  · rcases ht with ht | ht <;> rw [Nat.eq_of_beq_eq_true ht] <;> exact otg_f (by omega)
  rcases List.mem_cons.mp hc with rfl | hc
  · rcases ht with ht | ht <;> rw [Nat.eq_of_beq_eq_true ht] <;> exact rtg_f (by omega)
  · cases hc
theorem apt_5 : ∀ c' ∈ ([cr QQ, cu 24 25 26, ceq PE9, ceqL PL9, ck 11 0 (-4), cn 110 26 20, cb 125 128, co 125, cR 1100 1209 RWg SR WG] : List Cp), ∀ t, (ctr 125 110 20 26 : Cp).tg t = true → c'.tg t = false := by
  intro c' hc t ht
  have ht2 : t = 300 ∨ t = 301 ∨ t = 302 ∨ t = 303 ∨ t = 304 ∨ t = 340 := tgC ht
  rcases List.mem_cons.mp hc with rfl | hc
  · rcases ht2 with rfl | rfl | rfl | rfl | rfl | rfl <;> rfl
  rcases List.mem_cons.mp hc with rfl | hc
  · rcases ht2 with rfl | rfl | rfl | rfl | rfl | rfl <;> rfl
  rcases List.mem_cons.mp hc with rfl | hc
  · rcases ht2 with rfl | rfl | rfl | rfl | rfl | rfl <;> exact etg_f (by omega)
  rcases List.mem_cons.mp hc with rfl | hc
  · rcases ht2 with rfl | rfl | rfl | rfl | rfl | rfl <;> exact ltg_f (by omega)
  rcases List.mem_cons.mp hc with rfl | hc
  · rcases ht2 with rfl | rfl | rfl | rfl | rfl | rfl <;> rfl
  rcases List.mem_cons.mp hc with rfl | hc
  · rcases ht2 with rfl | rfl | rfl | rfl | rfl | rfl <;> rfl
  rcases List.mem_cons.mp hc with rfl | hc
  · rcases ht2 with rfl | rfl | rfl | rfl | rfl | rfl <;> exact btg_f (by omega)
  rcases List.mem_cons.mp hc with rfl | hc
  · rcases ht2 with rfl | rfl | rfl | rfl | rfl | rfl <;> exact otg_f (by omega)
  rcases List.mem_cons.mp hc with rfl | hc
  · rcases ht2 with rfl | rfl | rfl | rfl | rfl | rfl <;> exact rtg_f (by omega)
  · cases hc
theorem apt_6 : ∀ c' ∈ ([cu 24 25 26, ceq PE9, ceqL PL9, ck 11 0 (-4), cn 110 26 20, cb 125 128, co 125, cR 1100 1209 RWg SR WG] : List Cp), ∀ t, (cr QQ : Cp).tg t = true → c'.tg t = false := by
  intro c' hc t ht
  have ht2 : t = 312 ∨ t = 313 ∨ t = 314 ∨ t = 321 ∨ t = 322 ∨ t = 323 ∨ t = 324 ∨ t = 325 ∨ t = 326 ∨ t = 327 ∨ t = 328 ∨ t = 341 := tgQ ht
  rcases List.mem_cons.mp hc with rfl | hc
  · rcases ht2 with rfl | rfl | rfl | rfl | rfl | rfl | rfl | rfl | rfl | rfl | rfl | rfl <;> rfl
  rcases List.mem_cons.mp hc with rfl | hc
  · rcases ht2 with rfl | rfl | rfl | rfl | rfl | rfl | rfl | rfl | rfl | rfl | rfl | rfl <;> exact etg_f (by omega)
  rcases List.mem_cons.mp hc with rfl | hc
  · rcases ht2 with rfl | rfl | rfl | rfl | rfl | rfl | rfl | rfl | rfl | rfl | rfl | rfl <;> exact ltg_f (by omega)
  rcases List.mem_cons.mp hc with rfl | hc
  · rcases ht2 with rfl | rfl | rfl | rfl | rfl | rfl | rfl | rfl | rfl | rfl | rfl | rfl <;> rfl
  rcases List.mem_cons.mp hc with rfl | hc
  · rcases ht2 with rfl | rfl | rfl | rfl | rfl | rfl | rfl | rfl | rfl | rfl | rfl | rfl <;> rfl
  rcases List.mem_cons.mp hc with rfl | hc
  · rcases ht2 with rfl | rfl | rfl | rfl | rfl | rfl | rfl | rfl | rfl | rfl | rfl | rfl <;> exact btg_f (by omega)
  rcases List.mem_cons.mp hc with rfl | hc
  · rcases ht2 with rfl | rfl | rfl | rfl | rfl | rfl | rfl | rfl | rfl | rfl | rfl | rfl <;> exact otg_f (by omega)
  rcases List.mem_cons.mp hc with rfl | hc
  · rcases ht2 with rfl | rfl | rfl | rfl | rfl | rfl | rfl | rfl | rfl | rfl | rfl | rfl <;> exact rtg_f (by omega)
  · cases hc
theorem apt_7 : ∀ c' ∈ ([ceq PE9, ceqL PL9, ck 11 0 (-4), cn 110 26 20, cb 125 128, co 125, cR 1100 1209 RWg SR WG] : List Cp), ∀ t, (cu 24 25 26 : Cp).tg t = true → c'.tg t = false := by
  intro c' hc t ht
  have ht : (Nat.beq t 306 || Nat.beq t 307) = true := ht
  rw [Bool.or_eq_true] at ht
  rcases List.mem_cons.mp hc with rfl | hc
  · rcases ht with ht | ht <;> rw [Nat.eq_of_beq_eq_true ht] <;> exact etg_f (by omega)
  rcases List.mem_cons.mp hc with rfl | hc
  · rcases ht with ht | ht <;> rw [Nat.eq_of_beq_eq_true ht] <;> exact ltg_f (by omega)
  rcases List.mem_cons.mp hc with rfl | hc
  · rcases ht with ht | ht <;> rw [Nat.eq_of_beq_eq_true ht] <;> rfl
  rcases List.mem_cons.mp hc with rfl | hc
  · rcases ht with ht | ht <;> rw [Nat.eq_of_beq_eq_true ht] <;> rfl
  rcases List.mem_cons.mp hc with rfl | hc
  · rcases ht with ht | ht <;> rw [Nat.eq_of_beq_eq_true ht] <;> exact btg_f (by omega)
  rcases List.mem_cons.mp hc with rfl | hc
  · rcases ht with ht | ht <;> rw [Nat.eq_of_beq_eq_true ht] <;> exact otg_f (by omega)
  rcases List.mem_cons.mp hc with rfl | hc
  · rcases ht with ht | ht <;> rw [Nat.eq_of_beq_eq_true ht] <;> exact rtg_f (by omega)
  · cases hc
theorem apt_8 : ∀ c' ∈ ([ceqL PL9, ck 11 0 (-4), cn 110 26 20, cb 125 128, co 125, cR 1100 1209 RWg SR WG] : List Cp), ∀ t, (ceq PE9 : Cp).tg t = true → c'.tg t = false := by
  intro c' hc t ht
  have r9 := etg_rg ht
  rcases List.mem_cons.mp hc with rfl | hc
  · exact ltg_f (by omega)
  rcases List.mem_cons.mp hc with rfl | hc
  · rfl
  rcases List.mem_cons.mp hc with rfl | hc
  · rfl
  rcases List.mem_cons.mp hc with rfl | hc
  · exact btg_f (by omega)
  rcases List.mem_cons.mp hc with rfl | hc
  · exact otg_f (by omega)
  rcases List.mem_cons.mp hc with rfl | hc
  · exact rtg_f (by omega)
  · cases hc
theorem apt_9 : ∀ c' ∈ ([ck 11 0 (-4), cn 110 26 20, cb 125 128, co 125, cR 1100 1209 RWg SR WG] : List Cp), ∀ t, (ceqL PL9 : Cp).tg t = true → c'.tg t = false := by
  intro c' hc t ht
  have r9 := ltg_rg ht
  rcases List.mem_cons.mp hc with rfl | hc
  · rfl
  rcases List.mem_cons.mp hc with rfl | hc
  · rfl
  rcases List.mem_cons.mp hc with rfl | hc
  · exact btg_f (by omega)
  rcases List.mem_cons.mp hc with rfl | hc
  · exact otg_f (by omega)
  rcases List.mem_cons.mp hc with rfl | hc
  · exact rtg_f (by omega)
  · cases hc
theorem apt_12 : ∀ c' ∈ ([co 125, cR 1100 1209 RWg SR WG] : List Cp), ∀ t, (cb 125 128 : Cp).tg t = true → c'.tg t = false := by
  intro c' hc t ht
  have r9 := btg_rg ht
  rcases List.mem_cons.mp hc with rfl | hc
  · exact otg_f (by omega)
  rcases List.mem_cons.mp hc with rfl | hc
  · exact rtg_f (by omega)
  · cases hc
theorem apt_13 : ∀ c' ∈ ([cR 1100 1209 RWg SR WG] : List Cp), ∀ t, (co 125 : Cp).tg t = true → c'.tg t = false := by
  intro c' hc t ht
  have r9 := otg_rg ht
  rcases List.mem_cons.mp hc with rfl | hc
  · exact rtg_f (by omega)
  · cases hc
theorem apt_14 : ∀ c' ∈ ([] : List Cp), ∀ t, (cR 1100 1209 RWg SR WG : Cp).tg t = true → c'.tg t = false := by
  intro c' hc t ht
  cases hc
theorem CS_apt : Apt CS := ⟨apt_0, ⟨apt_1, ⟨apt_2, ⟨fun c _ t ht => (by cases ht), ⟨apt_4, ⟨apt_5, ⟨apt_6, ⟨apt_7, ⟨apt_8, ⟨apt_9, ⟨fun c _ t ht => (by cases ht), ⟨fun c _ t ht => (by cases ht), ⟨apt_12, ⟨apt_13, ⟨apt_14, trivial⟩⟩⟩⟩⟩⟩⟩⟩⟩⟩⟩⟩⟩⟩⟩
theorem u310 : ∀ c ∈ CS, c.tg 310 = true → c = cz 310 120 16 := by
  intro c hc h
  rcases List.mem_cons.mp hc with rfl | hc
  · rfl
  rcases List.mem_cons.mp hc with rfl | hc
  · cases h
  rcases List.mem_cons.mp hc with rfl | hc
  · cases h
  rcases List.mem_cons.mp hc with rfl | hc
  · cases h
  rcases List.mem_cons.mp hc with rfl | hc
  · cases h
  rcases List.mem_cons.mp hc with rfl | hc
  · cases h
  rcases List.mem_cons.mp hc with rfl | hc
  · exact absurd h (by decide)
  rcases List.mem_cons.mp hc with rfl | hc
  · exact absurd h (by decide)
  rcases List.mem_cons.mp hc with rfl | hc
  · rw [etg_f (by omega)] at h; cases h
  rcases List.mem_cons.mp hc with rfl | hc
  · rw [ltg_f (by omega)] at h; cases h
  rcases List.mem_cons.mp hc with rfl | hc
  · cases h
  rcases List.mem_cons.mp hc with rfl | hc
  · cases h
  rcases List.mem_cons.mp hc with rfl | hc
  · rw [btg_f (by omega)] at h; cases h
  rcases List.mem_cons.mp hc with rfl | hc
  · rw [otg_f (by omega)] at h; cases h
  rcases List.mem_cons.mp hc with rfl | hc
  · rw [rtg_f (by omega)] at h; cases h
  · cases hc
theorem u311 : ∀ c ∈ CS, c.tg 311 = true → c = cz 311 201 4 := by
  intro c hc h
  rcases List.mem_cons.mp hc with rfl | hc
  · cases h
  rcases List.mem_cons.mp hc with rfl | hc
  · rfl
  rcases List.mem_cons.mp hc with rfl | hc
  · cases h
  rcases List.mem_cons.mp hc with rfl | hc
  · cases h
  rcases List.mem_cons.mp hc with rfl | hc
  · cases h
  rcases List.mem_cons.mp hc with rfl | hc
  · cases h
  rcases List.mem_cons.mp hc with rfl | hc
  · exact absurd h (by decide)
  rcases List.mem_cons.mp hc with rfl | hc
  · exact absurd h (by decide)
  rcases List.mem_cons.mp hc with rfl | hc
  · rw [etg_f (by omega)] at h; cases h
  rcases List.mem_cons.mp hc with rfl | hc
  · rw [ltg_f (by omega)] at h; cases h
  rcases List.mem_cons.mp hc with rfl | hc
  · cases h
  rcases List.mem_cons.mp hc with rfl | hc
  · cases h
  rcases List.mem_cons.mp hc with rfl | hc
  · rw [btg_f (by omega)] at h; cases h
  rcases List.mem_cons.mp hc with rfl | hc
  · rw [otg_f (by omega)] at h; cases h
  rcases List.mem_cons.mp hc with rfl | hc
  · rw [rtg_f (by omega)] at h; cases h
  · cases hc
theorem u320 : ∀ c ∈ CS, c.tg 320 = true → c = cl 320 196 := by
  intro c hc h
  rcases List.mem_cons.mp hc with rfl | hc
  · cases h
  rcases List.mem_cons.mp hc with rfl | hc
  · cases h
  rcases List.mem_cons.mp hc with rfl | hc
  · rfl
  rcases List.mem_cons.mp hc with rfl | hc
  · cases h
  rcases List.mem_cons.mp hc with rfl | hc
  · cases h
  rcases List.mem_cons.mp hc with rfl | hc
  · cases h
  rcases List.mem_cons.mp hc with rfl | hc
  · exact absurd h (by decide)
  rcases List.mem_cons.mp hc with rfl | hc
  · exact absurd h (by decide)
  rcases List.mem_cons.mp hc with rfl | hc
  · rw [etg_f (by omega)] at h; cases h
  rcases List.mem_cons.mp hc with rfl | hc
  · rw [ltg_f (by omega)] at h; cases h
  rcases List.mem_cons.mp hc with rfl | hc
  · cases h
  rcases List.mem_cons.mp hc with rfl | hc
  · cases h
  rcases List.mem_cons.mp hc with rfl | hc
  · rw [btg_f (by omega)] at h; cases h
  rcases List.mem_cons.mp hc with rfl | hc
  · rw [otg_f (by omega)] at h; cases h
  rcases List.mem_cons.mp hc with rfl | hc
  · rw [rtg_f (by omega)] at h; cases h
  · cases hc
theorem u331 : ∀ c ∈ CS, c.tg 331 = true → c = cg9 110 112 183 144 := by
  intro c hc h
  rcases List.mem_cons.mp hc with rfl | hc
  · cases h
  rcases List.mem_cons.mp hc with rfl | hc
  · cases h
  rcases List.mem_cons.mp hc with rfl | hc
  · cases h
  rcases List.mem_cons.mp hc with rfl | hc
  · cases h
  rcases List.mem_cons.mp hc with rfl | hc
  · rfl
  rcases List.mem_cons.mp hc with rfl | hc
  · cases h
  rcases List.mem_cons.mp hc with rfl | hc
  · exact absurd h (by decide)
  rcases List.mem_cons.mp hc with rfl | hc
  · exact absurd h (by decide)
  rcases List.mem_cons.mp hc with rfl | hc
  · rw [etg_f (by omega)] at h; cases h
  rcases List.mem_cons.mp hc with rfl | hc
  · rw [ltg_f (by omega)] at h; cases h
  rcases List.mem_cons.mp hc with rfl | hc
  · cases h
  rcases List.mem_cons.mp hc with rfl | hc
  · cases h
  rcases List.mem_cons.mp hc with rfl | hc
  · rw [btg_f (by omega)] at h; cases h
  rcases List.mem_cons.mp hc with rfl | hc
  · rw [otg_f (by omega)] at h; cases h
  rcases List.mem_cons.mp hc with rfl | hc
  · rw [rtg_f (by omega)] at h; cases h
  · cases hc
theorem m310 : cz 310 120 16 ∈ CS := List.mem_cons_self ..
theorem m311 : cz 311 201 4 ∈ CS := List.mem_cons_of_mem _ (List.mem_cons_self ..)
theorem m320 : cl 320 196 ∈ CS := List.mem_cons_of_mem _ (List.mem_cons_of_mem _ (List.mem_cons_self ..))
theorem mcf : cf 110 148 211 210 206 ∈ CS := List.mem_cons_of_mem _ (List.mem_cons_of_mem _ (List.mem_cons_of_mem _ (List.mem_cons_self ..)))
theorem mcg : cg9 110 112 183 144 ∈ CS := List.mem_cons_of_mem _ (List.mem_cons_of_mem _ (List.mem_cons_of_mem _ (List.mem_cons_of_mem _ (List.mem_cons_self ..))))
theorem mct : ctr 125 110 20 26 ∈ CS := List.mem_cons_of_mem _ (List.mem_cons_of_mem _ (List.mem_cons_of_mem _ (List.mem_cons_of_mem _ (List.mem_cons_of_mem _ (List.mem_cons_self ..)))))
theorem mcr : cr QQ ∈ CS := List.mem_cons_of_mem _ (List.mem_cons_of_mem _ (List.mem_cons_of_mem _ (List.mem_cons_of_mem _ (List.mem_cons_of_mem _ (List.mem_cons_of_mem _ (List.mem_cons_self ..))))))
theorem mcu : cu 24 25 26 ∈ CS := List.mem_cons_of_mem _ (List.mem_cons_of_mem _ (List.mem_cons_of_mem _ (List.mem_cons_of_mem _ (List.mem_cons_of_mem _ (List.mem_cons_of_mem _ (List.mem_cons_of_mem _ (List.mem_cons_self ..)))))))
theorem mce : ceq PE9 ∈ CS := List.mem_cons_of_mem _ (List.mem_cons_of_mem _ (List.mem_cons_of_mem _ (List.mem_cons_of_mem _ (List.mem_cons_of_mem _ (List.mem_cons_of_mem _ (List.mem_cons_of_mem _ (List.mem_cons_of_mem _ (List.mem_cons_self ..))))))))
theorem mcl : ceqL PL9 ∈ CS := List.mem_cons_of_mem _ (List.mem_cons_of_mem _ (List.mem_cons_of_mem _ (List.mem_cons_of_mem _ (List.mem_cons_of_mem _ (List.mem_cons_of_mem _ (List.mem_cons_of_mem _ (List.mem_cons_of_mem _ (List.mem_cons_of_mem _ (List.mem_cons_self ..)))))))))
theorem mck : ck 11 0 (-4) ∈ CS := List.mem_cons_of_mem _ (List.mem_cons_of_mem _ (List.mem_cons_of_mem _ (List.mem_cons_of_mem _ (List.mem_cons_of_mem _ (List.mem_cons_of_mem _ (List.mem_cons_of_mem _ (List.mem_cons_of_mem _ (List.mem_cons_of_mem _ (List.mem_cons_of_mem _ (List.mem_cons_self ..))))))))))
theorem mcn : cn 110 26 20 ∈ CS := List.mem_cons_of_mem _ (List.mem_cons_of_mem _ (List.mem_cons_of_mem _ (List.mem_cons_of_mem _ (List.mem_cons_of_mem _ (List.mem_cons_of_mem _ (List.mem_cons_of_mem _ (List.mem_cons_of_mem _ (List.mem_cons_of_mem _ (List.mem_cons_of_mem _ (List.mem_cons_of_mem _ (List.mem_cons_self ..)))))))))))
theorem mcb : cb 125 128 ∈ CS := List.mem_cons_of_mem _ (List.mem_cons_of_mem _ (List.mem_cons_of_mem _ (List.mem_cons_of_mem _ (List.mem_cons_of_mem _ (List.mem_cons_of_mem _ (List.mem_cons_of_mem _ (List.mem_cons_of_mem _ (List.mem_cons_of_mem _ (List.mem_cons_of_mem _ (List.mem_cons_of_mem _ (List.mem_cons_of_mem _ (List.mem_cons_self ..))))))))))))
theorem mco : co 125 ∈ CS := List.mem_cons_of_mem _ (List.mem_cons_of_mem _ (List.mem_cons_of_mem _ (List.mem_cons_of_mem _ (List.mem_cons_of_mem _ (List.mem_cons_of_mem _ (List.mem_cons_of_mem _ (List.mem_cons_of_mem _ (List.mem_cons_of_mem _ (List.mem_cons_of_mem _ (List.mem_cons_of_mem _ (List.mem_cons_of_mem _ (List.mem_cons_of_mem _ (List.mem_cons_self ..)))))))))))))
theorem mcR : cR 1100 1209 RWg SR WG ∈ CS := List.mem_cons_of_mem _ (List.mem_cons_of_mem _ (List.mem_cons_of_mem _ (List.mem_cons_of_mem _ (List.mem_cons_of_mem _ (List.mem_cons_of_mem _ (List.mem_cons_of_mem _ (List.mem_cons_of_mem _ (List.mem_cons_of_mem _ (List.mem_cons_of_mem _ (List.mem_cons_of_mem _ (List.mem_cons_of_mem _ (List.mem_cons_of_mem _ (List.mem_cons_of_mem _ (List.mem_cons_self ..))))))))))))))
theorem uQ : ∀ c ∈ CS, ∀ t : Nat, qtg t = true → c.tg t = true → c = cr QQ := by
  intro c hc t h0 h
  rcases List.mem_cons.mp hc with rfl | hc
  · rcases tgQ h0 with rfl | rfl | rfl | rfl | rfl | rfl | rfl | rfl | rfl | rfl | rfl | rfl <;> exact absurd h (by decide)
  rcases List.mem_cons.mp hc with rfl | hc
  · rcases tgQ h0 with rfl | rfl | rfl | rfl | rfl | rfl | rfl | rfl | rfl | rfl | rfl | rfl <;> exact absurd h (by decide)
  rcases List.mem_cons.mp hc with rfl | hc
  · rcases tgQ h0 with rfl | rfl | rfl | rfl | rfl | rfl | rfl | rfl | rfl | rfl | rfl | rfl <;> exact absurd h (by decide)
  rcases List.mem_cons.mp hc with rfl | hc
  · rcases tgQ h0 with rfl | rfl | rfl | rfl | rfl | rfl | rfl | rfl | rfl | rfl | rfl | rfl <;> exact absurd h (by decide)
  rcases List.mem_cons.mp hc with rfl | hc
  · rcases tgQ h0 with rfl | rfl | rfl | rfl | rfl | rfl | rfl | rfl | rfl | rfl | rfl | rfl <;> exact absurd h (by decide)
  rcases List.mem_cons.mp hc with rfl | hc
  · rcases tgQ h0 with rfl | rfl | rfl | rfl | rfl | rfl | rfl | rfl | rfl | rfl | rfl | rfl <;> exact absurd h (by decide)
  rcases List.mem_cons.mp hc with rfl | hc
  · rfl
  rcases List.mem_cons.mp hc with rfl | hc
  · rcases tgQ h0 with rfl | rfl | rfl | rfl | rfl | rfl | rfl | rfl | rfl | rfl | rfl | rfl <;> exact absurd h (by decide)
  rcases List.mem_cons.mp hc with rfl | hc
  · rcases tgQ h0 with rfl | rfl | rfl | rfl | rfl | rfl | rfl | rfl | rfl | rfl | rfl | rfl <;> (rw [etg_f (by omega)] at h; cases h)
  rcases List.mem_cons.mp hc with rfl | hc
  · rcases tgQ h0 with rfl | rfl | rfl | rfl | rfl | rfl | rfl | rfl | rfl | rfl | rfl | rfl <;> (rw [ltg_f (by omega)] at h; cases h)
  rcases List.mem_cons.mp hc with rfl | hc
  · cases h
  rcases List.mem_cons.mp hc with rfl | hc
  · cases h
  rcases List.mem_cons.mp hc with rfl | hc
  · rcases tgQ h0 with rfl | rfl | rfl | rfl | rfl | rfl | rfl | rfl | rfl | rfl | rfl | rfl <;> (rw [btg_f (by omega)] at h; cases h)
  rcases List.mem_cons.mp hc with rfl | hc
  · rcases tgQ h0 with rfl | rfl | rfl | rfl | rfl | rfl | rfl | rfl | rfl | rfl | rfl | rfl <;> (rw [otg_f (by omega)] at h; cases h)
  rcases List.mem_cons.mp hc with rfl | hc
  · rcases tgQ h0 with rfl | rfl | rfl | rfl | rfl | rfl | rfl | rfl | rfl | rfl | rfl | rfl <;> (rw [rtg_f (by omega)] at h; cases h)
  · cases hc
theorem uU : ∀ c ∈ CS, ∀ t : Nat, utg t = true → c.tg t = true → c = cu 24 25 26 := by
  intro c hc t h0 h
  rcases List.mem_cons.mp hc with rfl | hc
  · rcases tgU h0 with rfl | rfl <;> exact absurd h (by decide)
  rcases List.mem_cons.mp hc with rfl | hc
  · rcases tgU h0 with rfl | rfl <;> exact absurd h (by decide)
  rcases List.mem_cons.mp hc with rfl | hc
  · rcases tgU h0 with rfl | rfl <;> exact absurd h (by decide)
  rcases List.mem_cons.mp hc with rfl | hc
  · rcases tgU h0 with rfl | rfl <;> exact absurd h (by decide)
  rcases List.mem_cons.mp hc with rfl | hc
  · rcases tgU h0 with rfl | rfl <;> exact absurd h (by decide)
  rcases List.mem_cons.mp hc with rfl | hc
  · rcases tgU h0 with rfl | rfl <;> exact absurd h (by decide)
  rcases List.mem_cons.mp hc with rfl | hc
  · rcases tgU h0 with rfl | rfl <;> exact absurd h (by decide)
  rcases List.mem_cons.mp hc with rfl | hc
  · rfl
  rcases List.mem_cons.mp hc with rfl | hc
  · rcases tgU h0 with rfl | rfl <;> (rw [etg_f (by omega)] at h; cases h)
  rcases List.mem_cons.mp hc with rfl | hc
  · rcases tgU h0 with rfl | rfl <;> (rw [ltg_f (by omega)] at h; cases h)
  rcases List.mem_cons.mp hc with rfl | hc
  · cases h
  rcases List.mem_cons.mp hc with rfl | hc
  · cases h
  rcases List.mem_cons.mp hc with rfl | hc
  · rcases tgU h0 with rfl | rfl <;> (rw [btg_f (by omega)] at h; cases h)
  rcases List.mem_cons.mp hc with rfl | hc
  · rcases tgU h0 with rfl | rfl <;> (rw [otg_f (by omega)] at h; cases h)
  rcases List.mem_cons.mp hc with rfl | hc
  · rcases tgU h0 with rfl | rfl <;> (rw [rtg_f (by omega)] at h; cases h)
  · cases hc
theorem qH : QH TJ GG CS QQ := ⟨TJ_wf, CS_ok, mcr, uQ⟩
theorem uH : UH TJ GG CS 24 25 26 := ⟨TJ_wf, CS_ok, mcu, uU⟩
theorem uT : ∀ c ∈ CS, ∀ t : Nat, 300 ≤ t → t ≤ 304 → c.tg t = true → c = ctr 125 110 20 26 := by
  intro c hc t h1 h2 h
  rcases List.mem_cons.mp hc with rfl | hc
  · have := Nat.eq_of_beq_eq_true h; omega
  rcases List.mem_cons.mp hc with rfl | hc
  · have := Nat.eq_of_beq_eq_true h; omega
  rcases List.mem_cons.mp hc with rfl | hc
  · have := Nat.eq_of_beq_eq_true h; omega
  rcases List.mem_cons.mp hc with rfl | hc
  · cases h
  rcases List.mem_cons.mp hc with rfl | hc
  · have h : (Nat.beq t 330 || Nat.beq t 331) = true := h
    rw [Bool.or_eq_true] at h
    rcases h with h | h <;> (have := Nat.eq_of_beq_eq_true h; omega)
  rcases List.mem_cons.mp hc with rfl | hc
  · rfl
  rcases List.mem_cons.mp hc with rfl | hc
  · have h9 : t = 300 ∨ t = 301 ∨ t = 302 ∨ t = 303 ∨ t = 304 := by omega
    rcases h9 with rfl | rfl | rfl | rfl | rfl <;> exact absurd h (by decide)
  rcases List.mem_cons.mp hc with rfl | hc
  · have h9 : t = 300 ∨ t = 301 ∨ t = 302 ∨ t = 303 ∨ t = 304 := by omega
    rcases h9 with rfl | rfl | rfl | rfl | rfl <;> exact absurd h (by decide)
  rcases List.mem_cons.mp hc with rfl | hc
  · have := etg_rg h; omega
  rcases List.mem_cons.mp hc with rfl | hc
  · have := ltg_rg h; omega
  rcases List.mem_cons.mp hc with rfl | hc
  · cases h
  rcases List.mem_cons.mp hc with rfl | hc
  · cases h
  rcases List.mem_cons.mp hc with rfl | hc
  · have := btg_rg h; omega
  rcases List.mem_cons.mp hc with rfl | hc
  · have := otg_rg h; omega
  rcases List.mem_cons.mp hc with rfl | hc
  · have := rtg_rg h; omega
  · cases hc
theorem del_t {H : List (Nat × Int)} {σ : zS} {t : Nat} (h1 : t ≤ 304) (hS : (ctr 125 110 20 26).S H σ) : (ctr 125 110 20 26).S (hdel t H) σ := by
  obtain ⟨s1, s2, s3, s4, s5⟩ := (hS : tS 125 110 20 26 H σ)
  have w : ∀ u z, lk (hdel t H) u = some z → lk H u = some z := fun u z h => by
    rw [lk_hdel] at h
    split at h
    · cases h
    · exact h
  refine ⟨fun h0 => ?_, s2, fun h => s3 (by rw [lk_hdel, if_neg (by omega)] at h; exact h), s4, fun q t' x a b c => s5 q t' x (w _ _ a) (w _ _ b) (w _ _ c)⟩
  obtain ⟨r, a1, a2⟩ := s1 h0
  exact ⟨r, a1, fun x n a b => a2 x n (w _ _ a) (w _ _ b)⟩
theorem h40 {σ : zS} (hb : Bd TJ GG σ) : ∀ x, x < 40 → Pp σ 125 x < 40 := by
  intro x hx
  have hk : GG.ka.get 125 = some (100, 40) := by decide +kernel
  have hc : TJ.co.get 125 = none := by decide +kernel
  have := hb 125 x (Or.inr ⟨100, 40, hk, hx⟩)
  have e : TJ.bd GG 125 x = [(-4, -4), (0, 39)] := by
    unfold Jx.bd
    rw [hk, hc]
    show (TJ.ai.get 125).getD T32 = _
    decide +kernel
  rw [e] at this
  obtain ⟨p, hp, h1, h2⟩ := this
  rcases List.mem_cons.mp hp with rfl | hp
  · dsimp only at h2; show (σ.1 125 x).toInt < 40; omega
  rcases List.mem_cons.mp hp with rfl | hp
  · dsimp only at h2; show (σ.1 125 x).toInt < 40; omega
  · cases hp
theorem tlt_0 {t : Nat} (h : (cz 310 120 16 : Cp).tg t = true) : t < 400 := by
  have := Nat.eq_of_beq_eq_true h; omega
theorem tlt_1 {t : Nat} (h : (cz 311 201 4 : Cp).tg t = true) : t < 400 := by
  have := Nat.eq_of_beq_eq_true h; omega
theorem tlt_2 {t : Nat} (h : (cl 320 196 : Cp).tg t = true) : t < 400 := by
  have := Nat.eq_of_beq_eq_true h; omega
theorem tlt_3 {t : Nat} (h : (cf 110 148 211 210 206 : Cp).tg t = true) : t < 400 := by
  cases h
theorem tlt_4 {t : Nat} (h : (cg9 110 112 183 144 : Cp).tg t = true) : t < 400 := by
  have h : (Nat.beq t 330 || Nat.beq t 331) = true := h
  rw [Bool.or_eq_true] at h
  rcases h with h | h <;> (have := Nat.eq_of_beq_eq_true h; omega)
theorem tlt_5 {t : Nat} (h : (ctr 125 110 20 26 : Cp).tg t = true) : t < 400 := by
  have := tgC h; omega
theorem tlt_6 {t : Nat} (h : (cr QQ : Cp).tg t = true) : t < 400 := by
  have := tgQ h; omega
theorem tlt_7 {t : Nat} (h : (cu 24 25 26 : Cp).tg t = true) : t < 400 := by
  have := tgU h; omega
theorem pHb0 : ∀ c ∈ CS, c = cb 125 128 ∨ ∀ t, (cb 125 128 : Cp).tg t = true → c.tg t = false := by
  intro c hc
  rcases List.mem_cons.mp hc with rfl | hc
  · exact Or.inr (fun t ht => by
    have r9 := btg_rg ht
    cases e : (cz 310 120 16 : Cp).tg t with
    | false => rfl
    | true =>
      have := tlt_0 e
      omega)
  rcases List.mem_cons.mp hc with rfl | hc
  · exact Or.inr (fun t ht => by
    have r9 := btg_rg ht
    cases e : (cz 311 201 4 : Cp).tg t with
    | false => rfl
    | true =>
      have := tlt_1 e
      omega)
  rcases List.mem_cons.mp hc with rfl | hc
  · exact Or.inr (fun t ht => by
    have r9 := btg_rg ht
    cases e : (cl 320 196 : Cp).tg t with
    | false => rfl
    | true =>
      have := tlt_2 e
      omega)
  rcases List.mem_cons.mp hc with rfl | hc
  · exact Or.inr (fun t ht => by
    have r9 := btg_rg ht
    cases e : (cf 110 148 211 210 206 : Cp).tg t with
    | false => rfl
    | true =>
      have := tlt_3 e
      omega)
  rcases List.mem_cons.mp hc with rfl | hc
  · exact Or.inr (fun t ht => by
    have r9 := btg_rg ht
    cases e : (cg9 110 112 183 144 : Cp).tg t with
    | false => rfl
    | true =>
      have := tlt_4 e
      omega)
  rcases List.mem_cons.mp hc with rfl | hc
  · exact Or.inr (fun t ht => by
    have r9 := btg_rg ht
    cases e : (ctr 125 110 20 26 : Cp).tg t with
    | false => rfl
    | true =>
      have := tlt_5 e
      omega)
  rcases List.mem_cons.mp hc with rfl | hc
  · exact Or.inr (fun t ht => by
    have r9 := btg_rg ht
    cases e : (cr QQ : Cp).tg t with
    | false => rfl
    | true =>
      have := tlt_6 e
      omega)
  rcases List.mem_cons.mp hc with rfl | hc
  · exact Or.inr (fun t ht => by
    have r9 := btg_rg ht
    cases e : (cu 24 25 26 : Cp).tg t with
    | false => rfl
    | true =>
      have := tlt_7 e
      omega)
  rcases List.mem_cons.mp hc with rfl | hc
  · exact Or.inr (fun t ht => by
    have r9 := btg_rg ht
    exact etg_f (by omega))
  rcases List.mem_cons.mp hc with rfl | hc
  · exact Or.inr (fun t ht => by
    have r9 := btg_rg ht
    exact ltg_f (by omega))
  rcases List.mem_cons.mp hc with rfl | hc
  · exact Or.inr (fun t ht => rfl)
  rcases List.mem_cons.mp hc with rfl | hc
  · exact Or.inr (fun t ht => rfl)
  rcases List.mem_cons.mp hc with rfl | hc
  · exact Or.inl rfl
  rcases List.mem_cons.mp hc with rfl | hc
  · exact Or.inr (fun t ht => by
    have r9 := btg_rg ht
    exact otg_f (by omega))
  rcases List.mem_cons.mp hc with rfl | hc
  · exact Or.inr (fun t ht => by
    have r9 := btg_rg ht
    exact rtg_f (by omega))
  · cases hc
theorem pHb : PH TJ GG CS (cb 125 128) := ⟨TJ_wf, CS_ok, mcb, pHb0⟩
theorem pHo0 : ∀ c ∈ CS, c = co 125 ∨ ∀ t, (co 125 : Cp).tg t = true → c.tg t = false := by
  intro c hc
  rcases List.mem_cons.mp hc with rfl | hc
  · exact Or.inr (fun t ht => by
    have r9 := otg_rg ht
    cases e : (cz 310 120 16 : Cp).tg t with
    | false => rfl
    | true =>
      have := tlt_0 e
      omega)
  rcases List.mem_cons.mp hc with rfl | hc
  · exact Or.inr (fun t ht => by
    have r9 := otg_rg ht
    cases e : (cz 311 201 4 : Cp).tg t with
    | false => rfl
    | true =>
      have := tlt_1 e
      omega)
  rcases List.mem_cons.mp hc with rfl | hc
  · exact Or.inr (fun t ht => by
    have r9 := otg_rg ht
    cases e : (cl 320 196 : Cp).tg t with
    | false => rfl
    | true =>
      have := tlt_2 e
      omega)
  rcases List.mem_cons.mp hc with rfl | hc
  · exact Or.inr (fun t ht => by
    have r9 := otg_rg ht
    cases e : (cf 110 148 211 210 206 : Cp).tg t with
    | false => rfl
    | true =>
      have := tlt_3 e
      omega)
  rcases List.mem_cons.mp hc with rfl | hc
  · exact Or.inr (fun t ht => by
    have r9 := otg_rg ht
    cases e : (cg9 110 112 183 144 : Cp).tg t with
    | false => rfl
    | true =>
      have := tlt_4 e
      omega)
  rcases List.mem_cons.mp hc with rfl | hc
  · exact Or.inr (fun t ht => by
    have r9 := otg_rg ht
    cases e : (ctr 125 110 20 26 : Cp).tg t with
    | false => rfl
    | true =>
      have := tlt_5 e
      omega)
  rcases List.mem_cons.mp hc with rfl | hc
  · exact Or.inr (fun t ht => by
    have r9 := otg_rg ht
    cases e : (cr QQ : Cp).tg t with
    | false => rfl
    | true =>
      have := tlt_6 e
      omega)
  rcases List.mem_cons.mp hc with rfl | hc
  · exact Or.inr (fun t ht => by
    have r9 := otg_rg ht
    cases e : (cu 24 25 26 : Cp).tg t with
    | false => rfl
    | true =>
      have := tlt_7 e
      omega)
  rcases List.mem_cons.mp hc with rfl | hc
  · exact Or.inr (fun t ht => by
    have r9 := otg_rg ht
    exact etg_f (by omega))
  rcases List.mem_cons.mp hc with rfl | hc
  · exact Or.inr (fun t ht => by
    have r9 := otg_rg ht
    exact ltg_f (by omega))
  rcases List.mem_cons.mp hc with rfl | hc
  · exact Or.inr (fun t ht => rfl)
  rcases List.mem_cons.mp hc with rfl | hc
  · exact Or.inr (fun t ht => rfl)
  rcases List.mem_cons.mp hc with rfl | hc
  · exact Or.inr (fun t ht => by
    have r9 := otg_rg ht
    exact btg_f (by omega))
  rcases List.mem_cons.mp hc with rfl | hc
  · exact Or.inl rfl
  rcases List.mem_cons.mp hc with rfl | hc
  · exact Or.inr (fun t ht => by
    have r9 := otg_rg ht
    exact rtg_f (by omega))
  · cases hc
theorem pHo : PH TJ GG CS (co 125) := ⟨TJ_wf, CS_ok, mco, pHo0⟩
theorem pHR0 : ∀ c ∈ CS, c = cR 1100 1209 RWg SR WG ∨ ∀ t, (cR 1100 1209 RWg SR WG : Cp).tg t = true → c.tg t = false := by
  intro c hc
  rcases List.mem_cons.mp hc with rfl | hc
  · exact Or.inr (fun t ht => by
    have r9 := rtg_rg ht
    cases e : (cz 310 120 16 : Cp).tg t with
    | false => rfl
    | true =>
      have := tlt_0 e
      omega)
  rcases List.mem_cons.mp hc with rfl | hc
  · exact Or.inr (fun t ht => by
    have r9 := rtg_rg ht
    cases e : (cz 311 201 4 : Cp).tg t with
    | false => rfl
    | true =>
      have := tlt_1 e
      omega)
  rcases List.mem_cons.mp hc with rfl | hc
  · exact Or.inr (fun t ht => by
    have r9 := rtg_rg ht
    cases e : (cl 320 196 : Cp).tg t with
    | false => rfl
    | true =>
      have := tlt_2 e
      omega)
  rcases List.mem_cons.mp hc with rfl | hc
  · exact Or.inr (fun t ht => by
    have r9 := rtg_rg ht
    cases e : (cf 110 148 211 210 206 : Cp).tg t with
    | false => rfl
    | true =>
      have := tlt_3 e
      omega)
  rcases List.mem_cons.mp hc with rfl | hc
  · exact Or.inr (fun t ht => by
    have r9 := rtg_rg ht
    cases e : (cg9 110 112 183 144 : Cp).tg t with
    | false => rfl
    | true =>
      have := tlt_4 e
      omega)
  rcases List.mem_cons.mp hc with rfl | hc
  · exact Or.inr (fun t ht => by
    have r9 := rtg_rg ht
    cases e : (ctr 125 110 20 26 : Cp).tg t with
    | false => rfl
    | true =>
      have := tlt_5 e
      omega)
  rcases List.mem_cons.mp hc with rfl | hc
  · exact Or.inr (fun t ht => by
    have r9 := rtg_rg ht
    cases e : (cr QQ : Cp).tg t with
    | false => rfl
    | true =>
      have := tlt_6 e
      omega)
  rcases List.mem_cons.mp hc with rfl | hc
  · exact Or.inr (fun t ht => by
    have r9 := rtg_rg ht
    cases e : (cu 24 25 26 : Cp).tg t with
    | false => rfl
    | true =>
      have := tlt_7 e
      omega)
  rcases List.mem_cons.mp hc with rfl | hc
  · exact Or.inr (fun t ht => by
    have r9 := rtg_rg ht
    exact etg_f (by omega))
  rcases List.mem_cons.mp hc with rfl | hc
  · exact Or.inr (fun t ht => by
    have r9 := rtg_rg ht
    exact ltg_f (by omega))
  rcases List.mem_cons.mp hc with rfl | hc
  · exact Or.inr (fun t ht => rfl)
  rcases List.mem_cons.mp hc with rfl | hc
  · exact Or.inr (fun t ht => rfl)
  rcases List.mem_cons.mp hc with rfl | hc
  · exact Or.inr (fun t ht => by
    have r9 := rtg_rg ht
    exact btg_f (by omega))
  rcases List.mem_cons.mp hc with rfl | hc
  · exact Or.inr (fun t ht => by
    have r9 := rtg_rg ht
    exact otg_f (by omega))
  rcases List.mem_cons.mp hc with rfl | hc
  · exact Or.inl rfl
  · cases hc
theorem pHR : PH TJ GG CS (cR 1100 1209 RWg SR WG) := ⟨TJ_wf, CS_ok, mcR, pHR0⟩
theorem hP0 {σ : zS} (hb : Bd TJ GG σ) (hn : Pp σ 125 0 < 0) : Pp σ 125 0 = -4 := by
  have hk : GG.ka.get 125 = some (100, 40) := by decide +kernel
  have hc : TJ.co.get 125 = none := by decide +kernel
  have := hb 125 0 (Or.inr ⟨100, 40, hk, by decide⟩)
  have e : TJ.bd GG 125 0 = [(-4, -4), (0, 39)] := by
    unfold Jx.bd
    rw [hk, hc]
    show (TJ.ai.get 125).getD T32 = _
    decide +kernel
  rw [e] at this
  have hn : (σ.1 125 0).toInt < 0 := hn
  show (σ.1 125 0).toInt = -4
  obtain ⟨p, hp, h1, h2⟩ := this
  rcases List.mem_cons.mp hp with rfl | hp
  · dsimp only at h1 h2; omega
  rcases List.mem_cons.mp hp with rfl | hp
  · dsimp only at h1 h2; omega
  · cases hp
theorem GX_J : POk GX.g GX.P JJ := P_ok TJ_wf (cS_ok CS_ok CS_apt)
theorem del_z {t k n : Nat} {H : List (Nat × Int)} {σ : zS} : (cz t k n).S (hdel t H) σ := fun z hz => by rw [lk_hdel, if_pos rfl] at hz; cases hz
theorem del_l {t k : Nat} {H : List (Nat × Int)} {σ : zS} : (cl t k).S (hdel t H) σ := fun z hz => by rw [lk_hdel, if_pos rfl] at hz; cases hz
theorem hxg_0_ok {h : Nat × (Nat × Nat)} {f : Fm} {s : Sy} {ρ : List Int} {σ : zS} (ho : Ok JJ s ρ σ) : ∃ s' ρ', hxg_0 h f s = some s' ∧ Pre ρ ρ' ∧ Ok JJ s' ρ' σ := by
  have same : ∃ s' ρ', some s = some s' ∧ Pre ρ ρ' ∧ Ok JJ s' ρ' σ := ⟨s, ρ, rfl, Pre.rf, ho⟩
  unfold hxg_0
  cases Nat.beq h.1 1 with
  | true =>
    obtain ⟨s', e1, e2⟩ := tg_ok (f := f) (i := h.2.1) ho
    exact ⟨s', ρ, e1, Pre.rf, e2⟩
  | false =>
  cases Nat.beq h.1 10 with
  | true =>
    cases Nat.beq h.2.1 310 with
    | true =>
      obtain ⟨ρ', e1, e2⟩ := hz10_ok TJ_wf CS_ok (by decide) u310 ho
      exact ⟨_, ρ', rfl, e1, e2⟩
    | false =>
    cases Nat.beq h.2.1 311 with
    | true =>
      obtain ⟨ρ', e1, e2⟩ := hz10_ok TJ_wf CS_ok (by decide) u311 ho
      exact ⟨_, ρ', rfl, e1, e2⟩
    | false => exact same
  | false =>
  cases Nat.beq h.1 11 with
  | true =>
    cases Nat.beq h.2.1 310 with
    | true => exact ⟨_, ρ, rfl, Pre.rf, h11_ok TJ_wf CS_ok (by decide) (fun c q e H σ _ => by rw [u310 c q e]; exact del_z) ho⟩
    | false =>
    cases Nat.beq h.2.1 311 with
    | true => exact ⟨_, ρ, rfl, Pre.rf, h11_ok TJ_wf CS_ok (by decide) (fun c q e H σ _ => by rw [u311 c q e]; exact del_z) ho⟩
    | false =>
    cases Nat.beq h.2.1 320 with
    | true => exact ⟨_, ρ, rfl, Pre.rf, h11_ok TJ_wf CS_ok (by decide) (fun c q e H σ _ => by rw [u320 c q e]; exact del_l) ho⟩
    | false =>
    cases hT : Nat.ble 300 h.2.1 && Nat.ble h.2.1 304 with
    | true =>
      rw [Bool.and_eq_true] at hT
      have t1 := Nat.le_of_ble_eq_true hT.1
      have t2 := Nat.le_of_ble_eq_true hT.2
      exact ⟨_, ρ, rfl, Pre.rf, h11_ok TJ_wf CS_ok (by omega) (fun c q e H σ hs => by have ec := uT c q _ t1 t2 e; subst ec; exact del_t t2 hs) ho⟩
    | false => exact same
  | false =>
  cases Nat.beq h.1 13 with
  | true => exact ⟨_, ρ, rfl, Pre.rf, hl13_ok TJ_wf CS_ok (by decide) u320 m320 ho⟩
  | false =>
  cases Nat.beq h.1 14 with
  | true => exact ⟨_, ρ, rfl, Pre.rf, hl14_ok TJ_wf CS_ok (by decide) u320 ho⟩
  | false =>
  cases Nat.beq h.1 15 with
  | true =>
    simp only [cond_true, cond_false]
    split
    · rename_i a ha
      obtain ⟨H, i1, i2⟩ := ho.inv
      rcases i1.lkp (t := 320) with ⟨q1, q2⟩ | ⟨a', z, q1, q2, q3⟩
      · rw [ha] at q1; cases q1
      · rw [ha] at q1
        cases Option.some.inj q1
        exact ⟨_, ρ, rfl, Pre.rf, hl15_ok q3 (fun j hj => i2.2.2 _ m320 z q2 j hj) ho ho.me⟩
    · exact same
  | false =>
  cases Nat.beq h.1 16 with
  | true =>
    simp only [cond_true, cond_false]
    cases Nat.beq h.2.1 310 with
    | true =>
      simp only [cond_true]
      split
      · rename_i a ha
        obtain ⟨H, i1, i2⟩ := ho.inv
        rcases i1.lkp (t := 310) with ⟨q1, q2⟩ | ⟨a', z, q1, q2, q3⟩
        · rw [ha] at q1; cases q1
        · rw [ha] at q1
          cases Option.some.inj q1
          have e := i2.2.2 _ m310 z q2
          obtain ⟨s', e1, e2⟩ := hz16_ok (by rw [← e]; exact q3) ho ho.me
          exact ⟨s', ρ, e1, Pre.rf, e2⟩
      · exact same
    | false =>
      simp only [cond_false]
      split
      · rename_i a ha
        obtain ⟨H, i1, i2⟩ := ho.inv
        rcases i1.lkp (t := 311) with ⟨q1, q2⟩ | ⟨a', z, q1, q2, q3⟩
        · rw [ha] at q1; cases q1
        · rw [ha] at q1
          cases Option.some.inj q1
          have e := i2.2.2 _ m311 z q2
          obtain ⟨s', e1, e2⟩ := hz16_ok (by rw [← e]; exact q3) ho ho.me
          exact ⟨s', ρ, e1, Pre.rf, e2⟩
      · exact same
  | false =>
  exact same
theorem hxg_1_ok {h : Nat × (Nat × Nat)} {f : Fm} {s : Sy} {ρ : List Int} {σ : zS} (ho : Ok JJ s ρ σ) : ∃ s' ρ', hxg_1 h f s = some s' ∧ Pre ρ ρ' ∧ Ok JJ s' ρ' σ := by
  have same : ∃ s' ρ', some s = some s' ∧ Pre ρ ρ' ∧ Ok JJ s' ρ' σ := ⟨s, ρ, rfl, Pre.rf, ho⟩
  unfold hxg_1
  cases Nat.beq h.1 17 with
  | true => exact ⟨_, ρ, rfl, Pre.rf, hl17_ok TJ_wf CS_ok (by decide) u320 m320 ho⟩
  | false =>
  cases Nat.beq h.1 18 with
  | true =>
    obtain ⟨H, i1, i2⟩ := ho.inv
    exact ⟨_, ρ, rfl, Pre.rf, hf18_ok (i2.2.2 _ mcf) ho ho.me⟩
  | false =>
  cases Nat.beq h.1 20 with
  | true => exact ⟨_, ρ, rfl, Pre.rf, hg20_ok TJ_wf CS_ok u331 ho⟩
  | false =>
  cases Nat.beq h.1 21 with
  | true => exact ⟨_, ρ, rfl, Pre.rf, hg21_ok mcg ho⟩
  | false =>
  cases Nat.beq h.1 22 with
  | true =>
    simp only [cond_true, cond_false]
    split
    · rename_i a _ _
      cases hv : evk s a with
      | false => exact same
      | true =>
        obtain ⟨z, hz⟩ := evk_ok ho hv
        obtain ⟨ρ', e1, e2⟩ := ht22_ok TJ_wf CS_ok mct (fun c q t ht e => uT c q t (by omega) (by omega) e) hz ho
        exact ⟨_, ρ', rfl, e1, e2⟩
    · exact same
  | false =>
  cases Nat.beq h.1 23 with
  | true =>
    simp only [cond_true, cond_false]
    split
    · rename_i a _ _
      cases hv : evk s a with
      | false => exact same
      | true =>
        obtain ⟨z, hz⟩ := evk_ok ho hv
        obtain ⟨ρ', e1, e2⟩ := ht23_ok TJ_wf CS_ok mct (fun c q t ht e => uT c q t (by omega) (by omega) e) h40 hz ho
        exact ⟨_, ρ', rfl, e1, e2⟩
    · exact same
  | false =>
  cases Nat.beq h.1 25 with
  | true =>
    simp only [cond_true, cond_false]
    split
    · rename_i a _ b _ _
      cases hv : evk s a && evk s b with
      | false => exact same
      | true =>
        rw [Bool.and_eq_true] at hv
        obtain ⟨z, hz⟩ := evk_ok ho hv.1
        obtain ⟨y, hy⟩ := evk_ok ho hv.2
        exact ⟨_, ρ, rfl, Pre.rf, ht25_ok TJ_wf CS_ok mct (fun c q t ht e => uT c q t (by omega) (by omega) e) hz hy ho⟩
    · exact same
  | false =>
  exact same
theorem hxg_2_ok {h : Nat × (Nat × Nat)} {f : Fm} {s : Sy} {ρ : List Int} {σ : zS} (ho : Ok JJ s ρ σ) : ∃ s' ρ', hxg_2 h f s = some s' ∧ Pre ρ ρ' ∧ Ok JJ s' ρ' σ := by
  have same : ∃ s' ρ', some s = some s' ∧ Pre ρ ρ' ∧ Ok JJ s' ρ' σ := ⟨s, ρ, rfl, Pre.rf, ho⟩
  unfold hxg_2
  cases Nat.beq h.1 26 with
  | true =>
    simp only [cond_true, cond_false]
    split
    · rename_i a _ _
      cases hv : evk s a with
      | false => exact same
      | true =>
        obtain ⟨z, hz⟩ := evk_ok ho hv
        exact ⟨_, ρ, rfl, Pre.rf, ht26_ok TJ_wf CS_ok mct (fun c q e => uT c q 304 (by omega) (by omega) e) hz ho⟩
    · exact same
  | false =>
  cases Nat.beq h.1 30 with
  | true => exact ⟨_, ρ, rfl, Pre.rf, h30_ok ho ho.fa⟩
  | false =>
  cases Nat.beq h.1 31 with
  | true =>
    obtain ⟨s', e1, e2⟩ := hr31_ok qH ho
    exact ⟨s', ρ, e1, Pre.rf, e2⟩
  | false =>
  cases Nat.beq h.1 32 with
  | true => exact ⟨_, ρ, rfl, Pre.rf, hr32_ok qH ho⟩
  | false =>
  cases Nat.beq h.1 33 with
  | true => exact ⟨_, ρ, rfl, Pre.rf, hr33_ok qH ho⟩
  | false =>
  cases Nat.beq h.1 34 with
  | true => exact ⟨_, ρ, rfl, Pre.rf, hr34_ok qH ho⟩
  | false =>
  cases Nat.beq h.1 35 with
  | true => exact ⟨_, ρ, rfl, Pre.rf, hr35_ok qH ho⟩
  | false =>
  exact same
theorem hxg_3_ok {h : Nat × (Nat × Nat)} {f : Fm} {s : Sy} {ρ : List Int} {σ : zS} (ho : Ok JJ s ρ σ) : ∃ s' ρ', hxg_3 h f s = some s' ∧ Pre ρ ρ' ∧ Ok JJ s' ρ' σ := by
  have same : ∃ s' ρ', some s = some s' ∧ Pre ρ ρ' ∧ Ok JJ s' ρ' σ := ⟨s, ρ, rfl, Pre.rf, ho⟩
  unfold hxg_3
  cases Nat.beq h.1 36 with
  | true =>
    simp only [cond_true, cond_false]
    split
    · rename_i r _
      cases hv : evk s r with
      | false => exact same
      | true =>
        obtain ⟨z, hz⟩ := evk_ok ho hv
        exact ⟨_, ρ, rfl, Pre.rf, hr36_ok qH hz ho⟩
    · exact same
  | false =>
  cases Nat.beq h.1 37 with
  | true =>
    obtain ⟨ρ', e1, e2⟩ := hr37_ok qH ho
    exact ⟨_, ρ', rfl, e1, e2⟩
  | false =>
  cases Nat.beq h.1 38 with
  | true => exact ⟨_, ρ, rfl, Pre.rf, hr38_ok qH ho⟩
  | false =>
  cases Nat.beq h.1 39 with
  | true => exact ⟨_, ρ, rfl, Pre.rf, hr39_ok qH ho⟩
  | false =>
  cases Nat.beq h.1 40 with
  | true =>
    simp only [cond_true, cond_false]
    split
    · rename_i p r _ _
      cases hv : evk s p && evk s r with
      | false => exact same
      | true =>
        rw [Bool.and_eq_true] at hv
        obtain ⟨z, hz⟩ := evk_ok ho hv.1
        obtain ⟨y, hy⟩ := evk_ok ho hv.2
        exact ⟨_, ρ, rfl, Pre.rf, hr40_ok qH hz hy ho⟩
    · exact same
  | false =>
  cases Nat.beq h.1 41 with
  | true => exact ⟨_, ρ, rfl, Pre.rf, hr41_ok qH ho⟩
  | false =>
  cases Nat.beq h.1 42 with
  | true => exact ⟨_, ρ, rfl, Pre.rf, hr42_ok qH ho⟩
  | false =>
  exact same
theorem hxg_4_ok {h : Nat × (Nat × Nat)} {f : Fm} {s : Sy} {ρ : List Int} {σ : zS} (ho : Ok JJ s ρ σ) : ∃ s' ρ', hxg_4 h f s = some s' ∧ Pre ρ ρ' ∧ Ok JJ s' ρ' σ := by
  have same : ∃ s' ρ', some s = some s' ∧ Pre ρ ρ' ∧ Ok JJ s' ρ' σ := ⟨s, ρ, rfl, Pre.rf, ho⟩
  unfold hxg_4
  cases Nat.beq h.1 43 with
  | true => exact ⟨_, ρ, rfl, Pre.rf, hr43_ok qH ho⟩
  | false =>
  cases Nat.beq h.1 44 with
  | true => exact ⟨_, ρ, rfl, Pre.rf, hr44_ok ho⟩
  | false =>
  cases Nat.beq h.1 45 with
  | true => exact ⟨_, ρ, rfl, Pre.rf, h45a_ok ho.fa ho ho.fa⟩
  | false =>
  cases Nat.beq h.1 46 with
  | true => exact ⟨_, ρ, rfl, Pre.rf, hr44_ok ho⟩
  | false =>
  cases Nat.beq h.1 50 with
  | true => exact ⟨_, ρ, rfl, Pre.rf, hu50_ok uH ho⟩
  | false =>
  cases Nat.beq h.1 51 with
  | true => exact ⟨_, ρ, rfl, Pre.rf, hu51_ok uH ho⟩
  | false =>
  cases Nat.beq h.1 52 with
  | true =>
    simp only [cond_true, cond_false]
    split
    · rename_i a _ _
      cases hv : evk s a with
      | false => exact same
      | true =>
        obtain ⟨z, hz⟩ := evk_ok ho hv
        exact ⟨_, ρ, rfl, Pre.rf, hu52_ok uH hz ho⟩
    · exact same
  | false =>
  exact same
theorem hxg_5_ok {h : Nat × (Nat × Nat)} {f : Fm} {s : Sy} {ρ : List Int} {σ : zS} (ho : Ok JJ s ρ σ) : ∃ s' ρ', hxg_5 h f s = some s' ∧ Pre ρ ρ' ∧ Ok JJ s' ρ' σ := by
  have same : ∃ s' ρ', some s = some s' ∧ Pre ρ ρ' ∧ Ok JJ s' ρ' σ := ⟨s, ρ, rfl, Pre.rf, ho⟩
  unfold hxg_5
  cases Nat.beq h.1 54 with
  | true => exact ⟨_, ρ, rfl, Pre.rf, hu54_ok uH ho⟩
  | false =>
  cases Nat.beq h.1 55 with
  | true =>
    obtain ⟨H, i1, i2⟩ := ho.inv
    obtain ⟨ρ', e1, e2⟩ := hu55_ok (bS12 i2.1) ho
    exact ⟨_, ρ', rfl, e1, e2⟩
  | false =>
  cases Nat.beq h.1 56 with
  | true => exact ⟨_, ρ, rfl, Pre.rf, hu56_ok uH ho⟩
  | false =>
  cases Nat.beq h.1 57 with
  | true => exact ⟨_, ρ, rfl, Pre.rf, hu57_ok uH ho⟩
  | false =>
  cases Nat.beq h.1 58 with
  | true => exact ⟨_, ρ, rfl, Pre.rf, hu58_ok ho⟩
  | false =>
  cases Nat.beq h.1 59 with
  | true =>
    obtain ⟨s', e1, e2⟩ := hu59_ok ho
    exact ⟨s', ρ, e1, Pre.rf, e2⟩
  | false =>
  cases Nat.beq h.1 60 with
  | true =>
    obtain ⟨H, i1, i2⟩ := ho.inv
    obtain ⟨a1, a2⟩ := hsAll_ok (i2.2.2 _ mce) ho i1
    exact ⟨_, ρ, rfl, Pre.rf, (hsAllL_ok (i2.2.2 _ mcl) a1 (by rw [a2]; exact i1)).1⟩
  | false =>
  exact same
theorem hxg_6_ok {h : Nat × (Nat × Nat)} {f : Fm} {s : Sy} {ρ : List Int} {σ : zS} (ho : Ok JJ s ρ σ) : ∃ s' ρ', hxg_6 h f s = some s' ∧ Pre ρ ρ' ∧ Ok JJ s' ρ' σ := by
  have same : ∃ s' ρ', some s = some s' ∧ Pre ρ ρ' ∧ Ok JJ s' ρ' σ := ⟨s, ρ, rfl, Pre.rf, ho⟩
  unfold hxg_6
  cases Nat.beq h.1 62 with
  | true =>
    show ∃ s' ρ', (match f.st[h.2.2]? with
      | some a => bif evk s a then some (hopL h.2.1 a PE9 s) else some s
      | none => some s) = some s' ∧ Pre ρ ρ' ∧ Ok JJ s' ρ' σ
    split
    · rename_i a _
      cases hv : evk s a with
      | false => exact same
      | true =>
        obtain ⟨z, hz⟩ := evk_ok ho hv
        obtain ⟨H, i1, i2⟩ := ho.inv
        exact ⟨_, ρ, rfl, Pre.rf, hopL_ok hz (i2.2.2 _ mce) ho i1⟩
    · exact same
  | false =>
  cases Nat.beq h.1 63 with
  | true =>
    obtain ⟨s', e1, e2⟩ := h63_ok mck ho
    exact ⟨s', ρ, e1, Pre.rf, e2⟩
  | false =>
  cases Nat.beq h.1 64 with
  | true =>
    obtain ⟨s', e1, e2⟩ := h64_ok mcn ho
    exact ⟨s', ρ, e1, Pre.rf, e2⟩
  | false =>
  cases Nat.beq h.1 70 with
  | true =>
    show ∃ s' ρ', (match lget f.lv h.2.1 with
    | some a => bif evk s a then some (h70 a h.2.2 s) else some s
    | none => some s) = some s' ∧ Pre ρ ρ' ∧ Ok JJ s' ρ' σ
    split
    · rename_i a _
      cases hv : evk s a with
      | false => exact same
      | true =>
        obtain ⟨z, hz⟩ := evk_ok ho hv
        exact ⟨_, ρ, rfl, Pre.rf, h70_ok pHb hz ho⟩
    · exact same
  | false =>
  cases Nat.beq h.1 71 with
  | true =>
    show ∃ s' ρ', (match lget f.lv h.2.1 with
    | some a => bif evk s a && leAV s (.c 0) a then some (h71 125 128 a s) else some s
    | none => some s) = some s' ∧ Pre ρ ρ' ∧ Ok JJ s' ρ' σ
    split
    · rename_i a _
      cases hv : evk s a && leAV s (.c 0) a with
      | false => exact same
      | true =>
        rw [Bool.and_eq_true] at hv
        obtain ⟨z, hz0⟩ := evk_ok ho hv.1
        have g := leAV_ok ho hv.2 (x := 0) rfl hz0
        have hz : ev ρ a = some ((z.toNat : Nat) : Int) := hz0.trans (congrArg some (by omega))
        exact ⟨_, ρ, rfl, Pre.rf, h71_ok pHb hz ho⟩
    · exact same
  | false =>
  cases Nat.beq h.1 72 with
  | true =>
    show ∃ s' ρ', (match lget f.lv h.2.1 with
    | some a => bif evk s a && leAV s (.c 0) a then some (h72 125 128 a s) else some s
    | none => some s) = some s' ∧ Pre ρ ρ' ∧ Ok JJ s' ρ' σ
    split
    · rename_i a _
      cases hv : evk s a && leAV s (.c 0) a with
      | false => exact same
      | true =>
        rw [Bool.and_eq_true] at hv
        obtain ⟨z, hz0⟩ := evk_ok ho hv.1
        have g := leAV_ok ho hv.2 (x := 0) rfl hz0
        have hz : ev ρ a = some ((z.toNat : Nat) : Int) := hz0.trans (congrArg some (by omega))
        exact ⟨_, ρ, rfl, Pre.rf, h72_ok pHb hz ho⟩
    · exact same
  | false =>
  cases Nat.beq h.1 73 with
  | true =>
    show ∃ s' ρ', (match lget f.lv h.2.1 with
    | some a => bif evk s a && leAV s (.c 0) a then h73 125 128 a s else some s
    | none => some s) = some s' ∧ Pre ρ ρ' ∧ Ok JJ s' ρ' σ
    split
    · rename_i a _
      cases hv : evk s a && leAV s (.c 0) a with
      | false => exact same
      | true =>
        rw [Bool.and_eq_true] at hv
        obtain ⟨z, hz0⟩ := evk_ok ho hv.1
        have g := leAV_ok ho hv.2 (x := 0) rfl hz0
        have hz : ev ρ a = some ((z.toNat : Nat) : Int) := hz0.trans (congrArg some (by omega))
        obtain ⟨s', e1, e2⟩ := h73_ok mcb hz ho
        exact ⟨s', ρ, e1, Pre.rf, e2⟩
    · exact same
  | false =>
  exact same
theorem hxg_7_ok {h : Nat × (Nat × Nat)} {f : Fm} {s : Sy} {ρ : List Int} {σ : zS} (ho : Ok JJ s ρ σ) : ∃ s' ρ', hxg_7 h f s = some s' ∧ Pre ρ ρ' ∧ Ok JJ s' ρ' σ := by
  have same : ∃ s' ρ', some s = some s' ∧ Pre ρ ρ' ∧ Ok JJ s' ρ' σ := ⟨s, ρ, rfl, Pre.rf, ho⟩
  unfold hxg_7
  cases Nat.beq h.1 74 with
  | true =>
    obtain ⟨s', e1, e2⟩ := h74_ok mcb ho
    exact ⟨s', ρ, e1, Pre.rf, e2⟩
  | false =>
  cases Nat.beq h.1 75 with
  | true =>
    exact ⟨_, ρ, rfl, Pre.rf, h75_ok pHb ho⟩
  | false =>
  cases Nat.beq h.1 76 with
  | true =>
    exact ⟨_, ρ, rfl, Pre.rf, h76_ok pHb ho⟩
  | false =>
  cases Nat.beq h.1 80 with
  | true =>
    show ∃ s' ρ', (match f.st with
    | a :: _ => bif evk s a then some (h80 110 26 a s) else some s
    | [] => some s) = some s' ∧ Pre ρ ρ' ∧ Ok JJ s' ρ' σ
    split
    · rename_i a _ _
      cases hv : evk s a with
      | false => exact same
      | true =>
        obtain ⟨z, hz⟩ := evk_ok ho hv
        obtain ⟨ρ', e1, e2⟩ := h80_ok TJ_wf CS_ok mct (fun c q t ht e => uT c q t (by omega) (by omega) e) hz ho
        exact ⟨_, ρ', rfl, e1, e2⟩
    · exact same
  | false =>
  cases Nat.beq h.1 81 with
  | true =>
    obtain ⟨s', e1, e2⟩ := h81_ok mct ho
    exact ⟨s', ρ, e1, Pre.rf, e2⟩
  | false =>
  cases Nat.beq h.1 82 with
  | true =>
    obtain ⟨s', e1, e2⟩ := h82_ok mct (fun hb hn => hP0 hb hn) ho
    exact ⟨s', ρ, e1, Pre.rf, e2⟩
  | false =>
  cases Nat.beq h.1 83 with
  | true =>
    show ∃ s' ρ', (match f.st with
    | a :: _ => bif evk s a then some (h83 a s) else some s
    | [] => some s) = some s' ∧ Pre ρ ρ' ∧ Ok JJ s' ρ' σ
    split
    · rename_i a _ _
      cases hv : evk s a with
      | false => exact same
      | true =>
        obtain ⟨z, hz⟩ := evk_ok ho hv
        exact ⟨_, ρ, rfl, Pre.rf, h83_ok pHo hz ho⟩
    · exact same
  | false =>
  exact same
theorem hxg_8_ok {h : Nat × (Nat × Nat)} {f : Fm} {s : Sy} {ρ : List Int} {σ : zS} (ho : Ok JJ s ρ σ) : ∃ s' ρ', hxg_8 h f s = some s' ∧ Pre ρ ρ' ∧ Ok JJ s' ρ' σ := by
  have same : ∃ s' ρ', some s = some s' ∧ Pre ρ ρ' ∧ Ok JJ s' ρ' σ := ⟨s, ρ, rfl, Pre.rf, ho⟩
  unfold hxg_8
  cases Nat.beq h.1 84 with
  | true =>
    show ∃ s' ρ', (match f.st with
    | a :: _ => bif evk s a then some (h84 125 a s) else some s
    | [] => some s) = some s' ∧ Pre ρ ρ' ∧ Ok JJ s' ρ' σ
    split
    · rename_i a _ _
      cases hv : evk s a with
      | false => exact same
      | true =>
        obtain ⟨z, hz⟩ := evk_ok ho hv
        exact ⟨_, ρ, rfl, Pre.rf, h84_ok pHo hz ho⟩
    · exact same
  | false =>
  cases Nat.beq h.1 85 with
  | true =>
    exact ⟨_, ρ, rfl, Pre.rf, h85_ok pHo ho⟩
  | false =>
  cases Nat.beq h.1 86 with
  | true =>
    exact ⟨_, ρ, rfl, Pre.rf, h86_ok pHo mct ho⟩
  | false =>
  cases Nat.beq h.1 87 with
  | true =>
    show ∃ s' ρ', (match f.st with
    | a :: _ => bif evk s a then some (h87 125 a s) else some s
    | [] => some s) = some s' ∧ Pre ρ ρ' ∧ Ok JJ s' ρ' σ
    split
    · rename_i a _ _
      cases hv : evk s a with
      | false => exact same
      | true =>
        obtain ⟨z, hz⟩ := evk_ok ho hv
        exact ⟨_, ρ, rfl, Pre.rf, h87_ok pHo hz ho⟩
    · exact same
  | false =>
  cases Nat.beq h.1 88 with
  | true =>
    show ∃ s' ρ', (match f.st with
    | a :: _ => bif evk s a then some (h88 125 a s) else some s
    | [] => some s) = some s' ∧ Pre ρ ρ' ∧ Ok JJ s' ρ' σ
    split
    · rename_i a _ _
      cases hv : evk s a with
      | false => exact same
      | true =>
        obtain ⟨z, hz⟩ := evk_ok ho hv
        exact ⟨_, ρ, rfl, Pre.rf, h88_ok pHo hz ho⟩
    · exact same
  | false =>
  cases Nat.beq h.1 89 with
  | true =>
    obtain ⟨s', e1, e2⟩ := h89_ok mco ho
    exact ⟨s', ρ, e1, Pre.rf, e2⟩
  | false =>
  cases Nat.beq h.1 90 with
  | true =>
    obtain ⟨s', e1, e2⟩ := h90_ok mco ho
    exact ⟨s', ρ, e1, Pre.rf, e2⟩
  | false =>
  exact same
theorem hxg_9_ok {h : Nat × (Nat × Nat)} {f : Fm} {s : Sy} {ρ : List Int} {σ : zS} (ho : Ok JJ s ρ σ) : ∃ s' ρ', hxg_9 h f s = some s' ∧ Pre ρ ρ' ∧ Ok JJ s' ρ' σ := by
  have same : ∃ s' ρ', some s = some s' ∧ Pre ρ ρ' ∧ Ok JJ s' ρ' σ := ⟨s, ρ, rfl, Pre.rf, ho⟩
  unfold hxg_9
  cases Nat.beq h.1 92 with
  | true =>
    exact ⟨_, ρ, rfl, Pre.rf, h92_ok pHo ho⟩
  | false =>
  cases Nat.ble 300 h.1 with
  | true =>
    show ∃ s' ρ', (match RGT.get h.1 with
      | some R => ruA RWg R (f.lv, (f.st, (.c 0, .c 0))) s
      | none => some s) = some s' ∧ Pre ρ ρ' ∧ Ok JJ s' ρ' σ
    split
    · rename_i R hR
      obtain ⟨q1, q2⟩ := RGT_ok.at hR
      exact ruA_ok pHR q1 q2 rfl ho
    · exact same
  | false =>
  exact same
theorem GX_H : HOk GX JJ := by
  intro h f s ρ σ ho
  show ∃ s' ρ', hxT h f s = some s' ∧ Pre ρ ρ' ∧ Ok JJ s' ρ' σ
  unfold hxT
  cases Nat.ble h.1 16 with
  | true => rw [cond_true]; exact hxg_0_ok ho
  | false =>
  rw [cond_false]
  cases Nat.ble h.1 25 with
  | true => rw [cond_true]; exact hxg_1_ok ho
  | false =>
  rw [cond_false]
  cases Nat.ble h.1 35 with
  | true => rw [cond_true]; exact hxg_2_ok ho
  | false =>
  rw [cond_false]
  cases Nat.ble h.1 42 with
  | true => rw [cond_true]; exact hxg_3_ok ho
  | false =>
  rw [cond_false]
  cases Nat.ble h.1 52 with
  | true => rw [cond_true]; exact hxg_4_ok ho
  | false =>
  rw [cond_false]
  cases Nat.ble h.1 60 with
  | true => rw [cond_true]; exact hxg_5_ok ho
  | false =>
  rw [cond_false]
  cases Nat.ble h.1 73 with
  | true => rw [cond_true]; exact hxg_6_ok ho
  | false =>
  rw [cond_false]
  cases Nat.ble h.1 83 with
  | true => rw [cond_true]; exact hxg_7_ok ho
  | false =>
  rw [cond_false]
  cases Nat.ble h.1 90 with
  | true => rw [cond_true]; exact hxg_8_ok ho
  | false =>
  rw [cond_false]
  exact hxg_9_ok ho
theorem low_nil {H : List (Nat × Int)} (hb : ∀ e ∈ H, 100 ≤ e.1 ∧ e.1 < 330) {r : Nat} (hr : r < 100 ∨ 330 ≤ r) : lk H r = none := by
  cases h : lk H r with
  | none => rfl
  | some x => have := hb _ (lk_mem h); dsimp only at this; omega
theorem nil_S {H : List (Nat × Int)} {σ : zS} (hb : ∀ e ∈ H, 100 ≤ e.1 ∧ e.1 < 330) : ∀ c ∈ CS, c.S H σ → c.S [] σ := by
  intro c hc hS
  rcases List.mem_cons.mp hc with rfl | hc
  · intro z hz; cases hz
  rcases List.mem_cons.mp hc with rfl | hc
  · intro z hz; cases hz
  rcases List.mem_cons.mp hc with rfl | hc
  · intro z hz; cases hz
  rcases List.mem_cons.mp hc with rfl | hc
  · exact hS
  rcases List.mem_cons.mp hc with rfl | hc
  · exact (CS_ok _ mcg).dep H [] σ σ (fun u hu => by
    have hu : (Nat.beq u 330 || Nat.beq u 331) = true := hu
    rw [Bool.or_eq_true] at hu
    rcases hu with hu | hu <;> rw [Nat.eq_of_beq_eq_true hu, low_nil hb (by decide)] <;> rfl) (fun _ _ => rfl) hS
  rcases List.mem_cons.mp hc with rfl | hc
  · obtain ⟨s1, s2, s3, s4, s5⟩ := (hS : tS 125 110 20 26 H σ)
    exact ⟨fun h0 => (by obtain ⟨r, a1, _⟩ := s1 h0; exact ⟨r, a1, fun x n a => (by cases a)⟩), s2, fun _ => s3 (low_nil hb (by decide)), s4, fun q t x a => (by cases a)⟩
  rcases List.mem_cons.mp hc with rfl | hc
  · obtain ⟨s0, sz, s8, s7, s5, s6⟩ := (hS : qS QQ H σ)
    exact ⟨s0, fun _ => sz (low_nil hb (by decide)), fun P q => (by cases q), fun f e h w B N P q => (by cases q), fun r q => (by cases q), fun k t h q => (by cases q)⟩
  rcases List.mem_cons.mp hc with rfl | hc
  · exact ⟨fun T q => (by cases q), fun T z q => (by cases q)⟩
  rcases List.mem_cons.mp hc with rfl | hc
  · exact (CS_ok _ mce).dep H [] σ σ (fun u hu => by
    have hu := etg_rg hu
    rw [low_nil hb (Or.inr (by omega))]
    rfl) (fun _ _ => rfl) hS
  rcases List.mem_cons.mp hc with rfl | hc
  · exact (CS_ok _ mcl).dep H [] σ σ (fun u hu => by
    have hu := ltg_rg hu
    rw [low_nil hb (Or.inr (by omega))]
    rfl) (fun _ _ => rfl) hS
  rcases List.mem_cons.mp hc with rfl | hc
  · exact hS
  rcases List.mem_cons.mp hc with rfl | hc
  · exact hS
  rcases List.mem_cons.mp hc with rfl | hc
  · exact (CS_ok _ mcb).dep H [] σ σ (fun u hu => by
    have hu := btg_rg hu
    rw [low_nil hb (Or.inr (by omega))]
    rfl) (fun _ _ => rfl) hS
  rcases List.mem_cons.mp hc with rfl | hc
  · exact (CS_ok _ mco).dep H [] σ σ (fun u hu => by
    have hu := otg_rg hu
    rw [low_nil hb (Or.inr (by omega))]
    rfl) (fun _ _ => rfl) hS
  rcases List.mem_cons.mp hc with rfl | hc
  · exact (CS_ok _ mcR).dep H [] σ σ (fun u hu => by
    have hu := rtg_rg hu
    rw [low_nil hb (Or.inr (by omega))]
    rfl) (fun _ _ => rfl) hS
  · cases hc
theorem ctF {H : List (Nat × Int)} {σ σ' : zS} (hb : ∀ e ∈ H, 100 ≤ e.1 ∧ e.1 < 330) (hJ : JJ H σ) (hJ' : JJ [] σ') (hr : ∀ e ∈ H, ∀ k, trT e.1 k = true → σ'.1 k = σ.1 k ∧ σ'.2 k = σ.2 k) : (ctr 125 110 20 26).S H σ' := by
  by_cases h : ∀ t, 300 ≤ t → t ≤ 304 → lk H t = none
  · refine (CS_ok _ mct).dep [] H σ' σ' (fun u hu => ?_) (fun _ _ => rfl) (hJ'.2.2 _ mct)
    have hu : ((Nat.ble 300 u && Nat.ble u 304) || Nat.beq u 340) = true := hu
    rw [Bool.or_eq_true, Bool.and_eq_true] at hu
    rcases hu with ⟨u1, u2⟩ | u1
    · rw [h u (Nat.le_of_ble_eq_true u1) (Nat.le_of_ble_eq_true u2)]; rfl
    · rw [Nat.eq_of_beq_eq_true u1, low_nil hb (by decide)]; rfl
  · have hx : ∃ t z, 300 ≤ t ∧ t ≤ 304 ∧ lk H t = some z := Classical.byContradiction fun hn => h fun t h1 h2 => by
      cases hl : lk H t with
      | none => rfl
      | some z => exact absurd ⟨t, z, h1, h2, hl⟩ hn
    obtain ⟨t, z, h1, h2, hl⟩ := hx
    have rk9 := hr _ (lk_mem hl) 125 (by
      show trT t 125 = true
      unfold trT
      rw [Nat.ble_eq_true_of_le h1, Nat.ble_eq_true_of_le h2]
      simp)
    replace rk9 := rk9.1
    have rp : Pp σ' 125 = Pp σ 125 := by funext y; show (σ'.1 125 y).toInt = _; rw [rk9]
    obtain ⟨s1, s2, s3, s4, s5⟩ := (hJ.2.2 _ mct : tS 125 110 20 26 H σ)
    obtain ⟨t1, t2, t3, t4, t5⟩ := (hJ'.2.2 _ mct : tS 125 110 20 26 [] σ')
    exact ⟨by rw [rp]; exact s1, t2, fun _ => t3 rfl, t4, by rw [rp]; exact s5⟩
theorem Pp_eq {σ σ' : zS} {k : Nat} (h : σ'.1 k = σ.1 k) : Pp σ' k = Pp σ k := by
  funext y
  show (σ'.1 k y).toInt = _
  rw [h]
theorem crF {H : List (Nat × Int)} {σ σ' : zS} (hb : ∀ e ∈ H, 100 ≤ e.1 ∧ e.1 < 330) (hJ : JJ H σ) (hJ' : JJ [] σ') (hr : ∀ e ∈ H, ∀ k, trT e.1 k = true → σ'.1 k = σ.1 k ∧ σ'.2 k = σ.2 k) : (cr QQ).S H σ' := by
  obtain ⟨s0, sz, s8, s7, s5, s6⟩ := (hJ.2.2 _ mcr : qS QQ H σ)
  obtain ⟨t0, tz, _, _, _, _⟩ := (hJ'.2.2 _ mcr : qS QQ [] σ')
  refine ⟨t0, fun _ => tz rfl, fun P q => ?_, fun f e h w B N P q1 q2 q3 q4 q5 q6 q7 => ?_, fun r q => ?_, fun k t h q1 q2 q3 => ?_⟩
  · rw [low_nil hb (by decide)] at q
    cases q
  · have m := lk_mem q1
    rw [Pp_eq (k := QQ.c) (hr _ m _ rfl).1, Pp_eq (k := QQ.s) (hr _ m _ rfl).1, Pp_eq (k := QQ.e) (hr _ m _ rfl).1, Pp_eq (k := QQ.w) (hr _ m _ rfl).1]
    exact s7 f e h w B N P q1 q2 q3 q4 q5 q6 q7
  · have m := lk_mem q
    rw [Pp_eq (k := QQ.c) (hr _ m _ rfl).1, Pp_eq (k := QQ.s) (hr _ m _ rfl).1, Pp_eq (k := QQ.e) (hr _ m _ rfl).1]
    exact s5 r q
  · have m := lk_mem q1
    rw [Pp_eq (k := QQ.c) (hr _ m _ rfl).1]
    exact s6 k t h q1 q2 q3
theorem cuF {H : List (Nat × Int)} {σ σ' : zS} (hJ : JJ H σ) (hr : ∀ e ∈ H, ∀ k, trT e.1 k = true → σ'.1 k = σ.1 k ∧ σ'.2 k = σ.2 k) : (cu 24 25 26).S H σ' := by
  obtain ⟨s1, s2⟩ := (hJ.2.2 _ mcu : uS 24 25 26 H σ)
  refine ⟨fun T q i hi => ?_, fun T z q hz i hi => ?_⟩
  · have m := lk_mem q
    have := s1 T q i hi
    unfold uN at this ⊢
    rw [(hr _ m 25 rfl).1, (hr _ m 24 rfl).1, (hr _ m 26 rfl).2]
    exact this
  · have m := lk_mem q
    have := s2 T z q hz i hi
    unfold uN at this ⊢
    rw [(hr _ m 25 rfl).1, (hr _ m 24 rfl).1, (hr _ m 26 rfl).2]
    exact this
theorem GX_F : JFr GX JJ := by
  refine ⟨fun H σ hb hJ => ⟨hJ.1, fun r R hr j hj _ => hJ.2.1 r R hr j hj (by rw [low_nil hb (Or.inl (wf_row TJ_wf hr).1)]; intro q; cases q), fun c q => nil_S hb c q (hJ.2.2 c q)⟩, fun H σ σ' hb hJ hJ' hr => ⟨hJ'.1, fun r R hr j hj _ => hJ'.2.1 r R hr j hj (by intro q; cases q), ?_⟩, ?_⟩
  · have one : ∀ c ∈ CS, ∀ t k : Nat, (∀ u, c.tg u = Nat.beq u t) → (∀ u, c.rw u = Nat.beq u k) → (∀ u, c.lr u = false) → trT t k = true → c.S H σ' := by
      intro c q t k h1 h2 h4 h3
      cases hl : lk H t with
      | none => exact (CS_ok c q).dep [] H σ' σ' (fun u hu => by rw [h1] at hu; rw [Nat.eq_of_beq_eq_true hu, hl]; rfl) (fun _ _ => rfl) (hJ'.2.2 c q)
      | some x => exact (CS_ok c q).dep H H σ σ' (fun _ _ => rfl) (fun u hu => by rw [h2] at hu; rw [Nat.eq_of_beq_eq_true hu]; exact (hr _ (lk_mem hl) k h3).1) (hJ.2.2 c q) (fun u hu => by rw [h4] at hu; cases hu)
    intro c hc0
    have hc := hc0
    rcases List.mem_cons.mp hc with rfl | hc
    · exact one _ hc0 310 120 (fun _ => rfl) (fun _ => rfl) (fun _ => rfl) rfl
    rcases List.mem_cons.mp hc with rfl | hc
    · exact one _ hc0 311 201 (fun _ => rfl) (fun _ => rfl) (fun _ => rfl) rfl
    rcases List.mem_cons.mp hc with rfl | hc
    · exact one _ hc0 320 196 (fun _ => rfl) (fun _ => rfl) (fun _ => rfl) rfl
    rcases List.mem_cons.mp hc with rfl | hc
    · exact hJ'.2.2 _ mcf
    rcases List.mem_cons.mp hc with rfl | hc
    · exact (CS_ok _ mcg).dep [] H σ' σ' (fun u hu => by
        have hu : (Nat.beq u 330 || Nat.beq u 331) = true := hu
        rw [Bool.or_eq_true] at hu
        rcases hu with hu | hu <;> rw [Nat.eq_of_beq_eq_true hu, low_nil hb (by decide)] <;> rfl) (fun _ _ => rfl) (hJ'.2.2 _ mcg)
    rcases List.mem_cons.mp hc with rfl | hc
    · exact ctF hb hJ hJ' hr
    rcases List.mem_cons.mp hc with rfl | hc
    · exact crF hb hJ hJ' hr
    rcases List.mem_cons.mp hc with rfl | hc
    · exact cuF hJ hr
    rcases List.mem_cons.mp hc with rfl | hc
    · exact (CS_ok _ mce).dep [] H σ' σ' (fun u hu => by
        have hu := etg_rg hu
        rw [low_nil hb (Or.inr (by omega))]
        rfl) (fun _ _ => rfl) (hJ'.2.2 _ mce)
    rcases List.mem_cons.mp hc with rfl | hc
    · exact (CS_ok _ mcl).dep [] H σ' σ' (fun u hu => by
        have hu := ltg_rg hu
        rw [low_nil hb (Or.inr (by omega))]
        rfl) (fun _ _ => rfl) (hJ'.2.2 _ mcl)
    rcases List.mem_cons.mp hc with rfl | hc
    · exact hJ'.2.2 _ mck
    rcases List.mem_cons.mp hc with rfl | hc
    · exact hJ'.2.2 _ mcn
    rcases List.mem_cons.mp hc with rfl | hc
    · exact (CS_ok _ mcb).dep [] H σ' σ' (fun u hu => by
        have hu := btg_rg hu
        rw [low_nil hb (Or.inr (by omega))]
        rfl) (fun _ _ => rfl) (hJ'.2.2 _ mcb)
    rcases List.mem_cons.mp hc with rfl | hc
    · exact (CS_ok _ mco).dep [] H σ' σ' (fun u hu => by
        have hu := otg_rg hu
        rw [low_nil hb (Or.inr (by omega))]
        rfl) (fun _ _ => rfl) (hJ'.2.2 _ mco)
    rcases List.mem_cons.mp hc with rfl | hc
    · exact (CS_ok _ mcR).dep [] H σ' σ' (fun u hu => by
        have hu := rtg_rg hu
        rw [low_nil hb (Or.inr (by omega))]
        rfl) (fun _ _ => rfl) (hJ'.2.2 _ mcR)
    · cases hc
  · intro t k h
    have h : trT t k = true := h
    unfold trT at h
    simp only [Bool.or_eq_true, Bool.and_eq_true] at h
    rcases h with ⟨_, h⟩ | ⟨_, h⟩ | ⟨_, h⟩ | ⟨_, h⟩ | ⟨_, h⟩ | ⟨_, h⟩
    · rw [Nat.eq_of_beq_eq_true h]; decide +kernel
    · rw [Nat.eq_of_beq_eq_true h]; decide +kernel
    · rw [Nat.eq_of_beq_eq_true h]; decide +kernel
    · rw [Nat.eq_of_beq_eq_true h]; decide +kernel
    · rcases h with h | h | h | h <;> rw [Nat.eq_of_beq_eq_true h] <;> decide +kernel
    · rcases h with h | h | h <;> rw [Nat.eq_of_beq_eq_true h] <;> decide +kernel
theorem GX_G : GxOk Yf GX := G_ok _ _ _ _
end

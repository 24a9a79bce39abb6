noncomputable section
noncomputable def PE9L9 : List Ep := [(400, (5, (0, (110, (6, 1))))), (404, (10, (0, (110, (20, 1))))), (408, (11, (1, (125, (1, 39))))), (412, (12, (1, (126, (1, 39))))), (416, (13, (0, (127, (0, 40))))), (420, (14, (0, (128, (0, 40))))), (424, (0, (2, (110, (0, 1))))), (428, (52, (1, (110, (96, 1))))), (432, (54, (0, (179, (0, 60))))), (436, (52, (5, (110, (109, 1)))))]
theorem PE9_aptL9 : eApt PE9L9 := ⟨by decide, by decide, by decide, by decide, by decide, by decide, by decide, by decide, by decide, by decide, trivial⟩
noncomputable def RWgL9 : List Nat := [53, 54, 55, 52, 110, 180, 181, 12, 11, 13, 15, 171, 172, 173, 174, 175, 176, 177, 178]
noncomputable def WGL9 : List (Nat × List Ru) := [(11, [wu_tP]), (12, [wu_tO]), (13, [wu_tI]), (15, [wu_tT]), (52, [wu_lO, wu_lP, wu_lN]), (53, [wu_rK0L9, wu_rN0L9, wu_rK1L9, wu_rN1L9, wu_rK2L9, wu_rN2L9, wu_rK3L9, wu_rN3L9, wu_rK4L9, wu_rN4L9, wu_rK5L9, wu_rN5L9, wu_rK6, wu_rN6, wu_rK7, wu_rN7, wu_rZ]), (54, [wu_sC, wu_s0, wu_sO, wu_sW]), (55, [wu_cC]), (110, [wu_o0, wu_o27, wu_o97, wu_o110, wu_oLL9, wu_oB, wu_oK]), (171, [wu_mC0L9]), (172, [wu_mC1L9]), (173, [wu_mC2L9]), (174, [wu_mC3L9]), (175, [wu_mC4L9]), (176, [wu_mC5L9]), (177, [wu_mC6, wu_mS6]), (178, [wu_mC7]), (180, [wu_dC, wu_d0]), (181, [wu_eC])]
theorem WG_okL9 : ∀ e ∈ WGL9, ∀ R ∈ e.2, tgsOk 870 999 RWgL9 R = true ∧ WrOk SL e.1 R := List.forall_mem_cons.mpr ⟨List.forall_mem_cons.mpr ⟨⟨by decide +kernel, wk_tP⟩, fun _ h => (by cases h)⟩, List.forall_mem_cons.mpr ⟨List.forall_mem_cons.mpr ⟨⟨by decide +kernel, wk_tO⟩, fun _ h => (by cases h)⟩, List.forall_mem_cons.mpr ⟨List.forall_mem_cons.mpr ⟨⟨by decide +kernel, wk_tI⟩, fun _ h => (by cases h)⟩, List.forall_mem_cons.mpr ⟨List.forall_mem_cons.mpr ⟨⟨by decide +kernel, wk_tT⟩, fun _ h => (by cases h)⟩, List.forall_mem_cons.mpr ⟨List.forall_mem_cons.mpr ⟨⟨by decide +kernel, wk_lO⟩, List.forall_mem_cons.mpr ⟨⟨by decide +kernel, wk_lP⟩, List.forall_mem_cons.mpr ⟨⟨by decide +kernel, wk_lN⟩, fun _ h => (by cases h)⟩⟩⟩, List.forall_mem_cons.mpr ⟨List.forall_mem_cons.mpr ⟨⟨by decide +kernel, wk_rK0L9⟩, List.forall_mem_cons.mpr ⟨⟨by decide +kernel, wk_rN0L9⟩, List.forall_mem_cons.mpr ⟨⟨by decide +kernel, wk_rK1L9⟩, List.forall_mem_cons.mpr ⟨⟨by decide +kernel, wk_rN1L9⟩, List.forall_mem_cons.mpr ⟨⟨by decide +kernel, wk_rK2L9⟩, List.forall_mem_cons.mpr ⟨⟨by decide +kernel, wk_rN2L9⟩, List.forall_mem_cons.mpr ⟨⟨by decide +kernel, wk_rK3L9⟩, List.forall_mem_cons.mpr ⟨⟨by decide +kernel, wk_rN3L9⟩, List.forall_mem_cons.mpr ⟨⟨by decide +kernel, wk_rK4L9⟩, List.forall_mem_cons.mpr ⟨⟨by decide +kernel, wk_rN4L9⟩, List.forall_mem_cons.mpr ⟨⟨by decide +kernel, wk_rK5L9⟩, List.forall_mem_cons.mpr ⟨⟨by decide +kernel, wk_rN5L9⟩, List.forall_mem_cons.mpr ⟨⟨by decide +kernel, wk_rK6⟩, List.forall_mem_cons.mpr ⟨⟨by decide +kernel, wk_rN6⟩, List.forall_mem_cons.mpr ⟨⟨by decide +kernel, wk_rK7⟩, List.forall_mem_cons.mpr ⟨⟨by decide +kernel, wk_rN7⟩, List.forall_mem_cons.mpr ⟨⟨by decide +kernel, wk_rZ⟩, fun _ h => (by cases h)⟩⟩⟩⟩⟩⟩⟩⟩⟩⟩⟩⟩⟩⟩⟩⟩⟩, List.forall_mem_cons.mpr ⟨List.forall_mem_cons.mpr ⟨⟨by decide +kernel, wk_sC⟩, List.forall_mem_cons.mpr ⟨⟨by decide +kernel, wk_s0⟩, List.forall_mem_cons.mpr ⟨⟨by decide +kernel, wk_sO⟩, List.forall_mem_cons.mpr ⟨⟨by decide +kernel, wk_sW⟩, fun _ h => (by cases h)⟩⟩⟩⟩, List.forall_mem_cons.mpr ⟨List.forall_mem_cons.mpr ⟨⟨by decide +kernel, wk_cC⟩, fun _ h => (by cases h)⟩, List.forall_mem_cons.mpr ⟨List.forall_mem_cons.mpr ⟨⟨by decide +kernel, wk_o0⟩, List.forall_mem_cons.mpr ⟨⟨by decide +kernel, wk_o27⟩, List.forall_mem_cons.mpr ⟨⟨by decide +kernel, wk_o97⟩, List.forall_mem_cons.mpr ⟨⟨by decide +kernel, wk_o110⟩, List.forall_mem_cons.mpr ⟨⟨by decide +kernel, wk_oLL9⟩, List.forall_mem_cons.mpr ⟨⟨by decide +kernel, wk_oB⟩, List.forall_mem_cons.mpr ⟨⟨by decide +kernel, wk_oK⟩, fun _ h => (by cases h)⟩⟩⟩⟩⟩⟩⟩, List.forall_mem_cons.mpr ⟨List.forall_mem_cons.mpr ⟨⟨by decide +kernel, wk_mC0L9⟩, fun _ h => (by cases h)⟩, List.forall_mem_cons.mpr ⟨List.forall_mem_cons.mpr ⟨⟨by decide +kernel, wk_mC1L9⟩, fun _ h => (by cases h)⟩, List.forall_mem_cons.mpr ⟨List.forall_mem_cons.mpr ⟨⟨by decide +kernel, wk_mC2L9⟩, fun _ h => (by cases h)⟩, List.forall_mem_cons.mpr ⟨List.forall_mem_cons.mpr ⟨⟨by decide +kernel, wk_mC3L9⟩, fun _ h => (by cases h)⟩, List.forall_mem_cons.mpr ⟨List.forall_mem_cons.mpr ⟨⟨by decide +kernel, wk_mC4L9⟩, fun _ h => (by cases h)⟩, List.forall_mem_cons.mpr ⟨List.forall_mem_cons.mpr ⟨⟨by decide +kernel, wk_mC5L9⟩, fun _ h => (by cases h)⟩, List.forall_mem_cons.mpr ⟨List.forall_mem_cons.mpr ⟨⟨by decide +kernel, wk_mC6⟩, List.forall_mem_cons.mpr ⟨⟨by decide +kernel, wk_mS6⟩, fun _ h => (by cases h)⟩⟩, List.forall_mem_cons.mpr ⟨List.forall_mem_cons.mpr ⟨⟨by decide +kernel, wk_mC7⟩, fun _ h => (by cases h)⟩, List.forall_mem_cons.mpr ⟨List.forall_mem_cons.mpr ⟨⟨by decide +kernel, wk_dC⟩, List.forall_mem_cons.mpr ⟨⟨by decide +kernel, wk_d0⟩, fun _ h => (by cases h)⟩⟩, List.forall_mem_cons.mpr ⟨List.forall_mem_cons.mpr ⟨⟨by decide +kernel, wk_eC⟩, fun _ h => (by cases h)⟩, fun _ h => (by cases h)⟩⟩⟩⟩⟩⟩⟩⟩⟩⟩⟩⟩⟩⟩⟩⟩⟩⟩⟩
noncomputable def RGTL9 : BT Ru := [(307, [(300, ru_sayNL9), (301, ru_say1), (302, ru_say3), (303, ru_sayS), (304, ru_hush), (305, ru_kn0L9), (306, ru_op0L9), (307, ru_kn1L9)]), (315, [(308, ru_op1L9), (309, ru_kn2L9), (310, ru_op2L9), (311, ru_kn3L9), (312, ru_op3L9), (313, ru_kn4L9), (314, ru_op4L9), (315, ru_kn5L9)]), (323, [(316, ru_op5L9), (317, ru_kn6), (318, ru_op6), (319, ru_kn7), (320, ru_op7), (321, ru_eq7), (322, ru_begun), (323, ru_wclr)]), (331, [(324, ru_lvl0), (325, ru_lnext), (326, ru_qd), (327, ru_fnext), (328, ru_wend), (329, ru_wfree), (330, ru_qh), (331, ru_q3)]), (339, [(332, ru_ownQ), (333, ru_ql), (334, ru_q2), (335, ru_qk0), (336, ru_qk2), (337, ru_qk3), (338, ru_q1), (339, ru_mq1)]), (347, [(340, ru_cnoS), (341, ru_cnoL), (342, ru_cnoG), (343, ru_cnoF), (344, ru_cnoH), (345, ru_cnoU), (346, ru_cfound), (347, ru_cbad)]), (355, [(348, ru_mnoS), (349, ru_mnoL), (350, ru_mnoG), (351, ru_mnoF), (352, ru_mnoH), (353, ru_mnoU), (354, ru_mfound), (355, ru_mbad)]), (363, [(356, ru_nbad), (357, ru_cnx), (358, ru_mnx), (359, ru_justL), (360, ru_justG), (361, ru_brf), (362, ru_kopen), (363, ru_k0)]), (365, [(364, ru_kend), (365, ru_kAt)])]
theorem RGT_okL9 : BT.AllP (fun _ R => tgsOk 870 999 RWgL9 R = true ∧ RuOk SL R) RGTL9 := ⟨⟨⟨by decide +kernel, rk_sayNL9⟩, ⟨by decide +kernel, rk_say1L9⟩, ⟨by decide +kernel, rk_say3⟩, ⟨by decide +kernel, rk_sayS⟩, ⟨by decide +kernel, rk_hushL9⟩, ⟨by decide +kernel, rk_kn0L9⟩, ⟨by decide +kernel, rk_op0L9⟩, ⟨by decide +kernel, rk_kn1L9⟩, trivial⟩, ⟨⟨by decide +kernel, rk_op1L9⟩, ⟨by decide +kernel, rk_kn2L9⟩, ⟨by decide +kernel, rk_op2L9⟩, ⟨by decide +kernel, rk_kn3L9⟩, ⟨by decide +kernel, rk_op3L9⟩, ⟨by decide +kernel, rk_kn4L9⟩, ⟨by decide +kernel, rk_op4L9⟩, ⟨by decide +kernel, rk_kn5L9⟩, trivial⟩, ⟨⟨by decide +kernel, rk_op5L9⟩, ⟨by decide +kernel, rk_kn6⟩, ⟨by decide +kernel, rk_op6⟩, ⟨by decide +kernel, rk_kn7⟩, ⟨by decide +kernel, rk_op7⟩, ⟨by decide +kernel, rk_eq7⟩, ⟨by decide +kernel, rk_begun⟩, ⟨by decide +kernel, rk_wclr⟩, trivial⟩, ⟨⟨by decide +kernel, rk_lvl0⟩, ⟨by decide +kernel, rk_lnext⟩, ⟨by decide +kernel, rk_qd⟩, ⟨by decide +kernel, rk_fnext⟩, ⟨by decide +kernel, rk_wend⟩, ⟨by decide +kernel, rk_wfree⟩, ⟨by decide +kernel, rk_qh⟩, ⟨by decide +kernel, rk_q3⟩, trivial⟩, ⟨⟨by decide +kernel, rk_ownQ⟩, ⟨by decide +kernel, rk_ql⟩, ⟨by decide +kernel, rk_q2⟩, ⟨by decide +kernel, rk_qk0⟩, ⟨by decide +kernel, rk_qk2⟩, ⟨by decide +kernel, rk_qk3⟩, ⟨by decide +kernel, rk_q1⟩, ⟨by decide +kernel, rk_mq1⟩, trivial⟩, ⟨⟨by decide +kernel, rk_cnoS⟩, ⟨by decide +kernel, rk_cnoL⟩, ⟨by decide +kernel, rk_cnoG⟩, ⟨by decide +kernel, rk_cnoF⟩, ⟨by decide +kernel, rk_cnoH⟩, ⟨by decide +kernel, rk_cnoU⟩, ⟨by decide +kernel, rk_cfound⟩, ⟨by decide +kernel, rk_cbad⟩, trivial⟩, ⟨⟨by decide +kernel, rk_mnoS⟩, ⟨by decide +kernel, rk_mnoL⟩, ⟨by decide +kernel, rk_mnoG⟩, ⟨by decide +kernel, rk_mnoF⟩, ⟨by decide +kernel, rk_mnoH⟩, ⟨by decide +kernel, rk_mnoU⟩, ⟨by decide +kernel, rk_mfound⟩, ⟨by decide +kernel, rk_mbad⟩, trivial⟩, ⟨⟨by decide +kernel, rk_nbad⟩, ⟨by decide +kernel, rk_cnx⟩, ⟨by decide +kernel, rk_mnx⟩, ⟨by decide +kernel, rk_justL⟩, ⟨by decide +kernel, rk_justG⟩, ⟨by decide +kernel, rk_brf⟩, ⟨by decide +kernel, rk_kopen⟩, ⟨by decide +kernel, rk_k0⟩, trivial⟩, ⟨⟨by decide +kernel, rk_kend⟩, ⟨by decide +kernel, rk_kAt⟩, trivial⟩, trivial⟩
noncomputable def CSL9 : List Cp := [cz 310 120 16, cz 311 201 4, cl 320 196, cf 110 148 211 210 206, cg9 110 112 183 144, ctr 125 110 20 26, cr QQ, cu 24 25 26, ceq PE9L9, ceqL PL9, ck 11 0 (-4), cn 110 26 20, cb 125 128, co 125, cw9 11 13, ck 12 0 (-4), cv9 126 110 26, cC9 15 129 110 26 16, cR 870 999 RWgL9 SL WGL9]
noncomputable def hxg_5L9 (h : Nat × (Nat × Nat)) (f : Fm) (s : Sy) : Option Sy :=
  bif Nat.beq h.1 54 then some (hu54 17 14 24 25 26 s)
  else bif Nat.beq h.1 55 then some (hu55 17 14 25 s)
  else bif Nat.beq h.1 56 then some (hu56 s)
  else bif Nat.beq h.1 57 then some (hu57 s)
  else bif Nat.beq h.1 58 then some (hu58 17 14 15 0 25 s)
  else bif Nat.beq h.1 59 then hu59 17 15 s
  else bif Nat.beq h.1 60 then some (hsAllL PL9 (hsAll PE9L9 s))
  else some s
noncomputable def hxg_6L9 (h : Nat × (Nat × Nat)) (f : Fm) (s : Sy) : Option Sy :=
  bif Nat.beq h.1 61 then (match f.st[h.2.2]? with
    | some a => bif evk s a then some (h61 h.2.1 a s) else some s
    | none => some s)
  else bif Nat.beq h.1 62 then (match f.st[h.2.2]? with
    | some a => bif evk s a then some (hopL h.2.1 a PE9L9 s) else some s
    | none => some s)
  else bif Nat.beq h.1 63 then (bif Nat.beq h.2.1 0 then h63 11 0 (-4) s else h63 12 0 (-4) s)
  else bif Nat.beq h.1 64 then h64 110 26 20 s
  else bif Nat.beq h.1 70 then (match lget f.lv h.2.1 with
    | some a => bif evk s a then some (h70 a h.2.2 s) else some s
    | none => some s)
  else bif Nat.beq h.1 71 then (match lget f.lv h.2.1 with
    | some a => bif evk s a && leAV s (.c 0) a then some (h71 125 128 a s) else some s
    | none => some s)
  else bif Nat.beq h.1 72 then (match lget f.lv h.2.1 with
    | some a => bif evk s a && leAV s (.c 0) a then some (h72 125 128 a s) else some s
    | none => some s)
  else some s
noncomputable def hxg_9L9 (h : Nat × (Nat × Nat)) (f : Fm) (s : Sy) : Option Sy :=
  bif Nat.beq h.1 90 then h90 s
  else bif Nat.beq h.1 92 then some (h92 s)
  else bif Nat.beq h.1 95 then (match lget f.lv h.2.1, lget f.lv h.2.2 with
    | some a, some b => bif evk s a && evk s b then some (h95 a b s) else some s
    | _, _ => some s)
  else bif Nat.beq h.1 96 then some (h96 s)
  else bif Nat.beq h.1 97 then (match f.st with
    | a :: _ => bif evk s a then some (h97 11 13 a s) else some s
    | [] => some s)
  else bif Nat.beq h.1 98 then h98 11 13 s
  else bif Nat.beq h.1 99 then some (h99 s)
  else some s
noncomputable def hxg_10 (h : Nat × (Nat × Nat)) (f : Fm) (s : Sy) : Option Sy :=
  bif Nat.beq h.1 100 then some (h100 s)
  else bif Nat.beq h.1 150 then h150 126 110 26 s
  else bif Nat.beq h.1 183 then (match f.st with
    | a :: _ => bif evk s a then some (h183 129 110 26 a s) else some s
    | [] => some s)
  else bif Nat.beq h.1 184 then some (h184 s)
  else bif Nat.beq h.1 190 then some (h190 s)
  else bif Nat.beq h.1 191 then some (h191 s)
  else bif Nat.beq h.1 192 then (match lget f.lv h.2.1 with
    | some a => bif evk s a then some (h192 16 a s) else some s
    | none => some s)
  else some s
noncomputable def hxg_11 (h : Nat × (Nat × Nat)) (f : Fm) (s : Sy) : Option Sy :=
  bif Nat.beq h.1 193 then some (h193 s)
  else bif Nat.beq h.1 194 then some (h194 s)
  else bif Nat.beq h.1 195 then (match lget f.lv h.2.1 with
    | some a => bif evk s a then some (h195 16 a s) else some s
    | none => some s)
  else bif Nat.beq h.1 196 then (match f.st with
    | a :: _ => bif evk s a then some (h196 a s) else some s
    | [] => some s)
  else bif Nat.beq h.1 197 then (match lget f.lv h.2.1 with
    | some a => bif evk s a then some (h197 a s) else some s
    | none => some s)
  else bif Nat.beq h.1 198 then (match f.st with
    | a :: _ => bif evk s a then some (h198 129 110 26 a s) else some s
    | [] => some s)
  else bif Nat.beq h.1 199 then (match f.st with
    | a :: _ => bif evk s a then some (h199 a s) else some s
    | [] => some s)
  else some s
noncomputable def hxg_12 (h : Nat × (Nat × Nat)) (f : Fm) (s : Sy) : Option Sy :=
  bif Nat.beq h.1 200 then some (h200 s)
  else bif Nat.beq h.1 202 then some (h202 110 26 s)
  else bif Nat.beq h.1 203 then some (h203 s)
  else bif Nat.beq h.1 204 then some (h204 s)
  else bif Nat.beq h.1 206 then some (h206 s)
  else bif Nat.beq h.1 207 then some (h207 s)
  else bif Nat.beq h.1 208 then (match f.st with
    | b :: a :: _ => bif evk s a && evk s b then some (h95 a b s) else some s
    | _ => some s)
  else some s
noncomputable def hxg_13 (h : Nat × (Nat × Nat)) (f : Fm) (s : Sy) : Option Sy :=
  bif Nat.beq h.1 209 then (match f.st with
    | b :: a :: _ => bif evk s a && evk s b then some (h209 a b s) else some s
    | _ => some s)
  else bif Nat.beq h.1 210 then (match (bif Nat.beq h.2.1 0 then f.st[0]? else lget f.lv (h.2.1 - 1)) with
    | some a => bif evk s a then some (h210 412 12 126 110 26 a s) else some s
    | none => some s)
  else bif Nat.ble 300 h.1 then (match RGTL9.get h.1 with
    | some R => ruA RWgL9 R (f.lv, (f.st, (.c 0, .c 0))) s
    | none => some s)
  else some s
noncomputable def hxTL9 (h : Nat × (Nat × Nat)) (f : Fm) (s : Sy) : Option Sy :=
  bif Nat.ble h.1 16 then hxg_0 h f s
  else bif Nat.ble h.1 25 then hxg_1 h f s
  else bif Nat.ble h.1 35 then hxg_2 h f s
  else bif Nat.ble h.1 42 then hxg_3 h f s
  else bif Nat.ble h.1 52 then hxg_4 h f s
  else bif Nat.ble h.1 60 then hxg_5L9 h f s
  else bif Nat.ble h.1 72 then hxg_6L9 h f s
  else bif Nat.ble h.1 82 then hxg_7 h f s
  else bif Nat.ble h.1 89 then hxg_8 h f s
  else bif Nat.ble h.1 99 then hxg_9L9 h f s
  else bif Nat.ble h.1 192 then hxg_10 h f s
  else bif Nat.ble h.1 199 then hxg_11 h f s
  else bif Nat.ble h.1 208 then hxg_12 h f s
  else hxg_13 h f s
noncomputable def GXL9 : Gx := mkX (TJ.P GG (cW CSL9)) hxTL9 CTTL9 trT
noncomputable abbrev JJL9 : Jt := Jf TJ GG (cS CSL9)
theorem CS_okL9 : ∀ c ∈ CSL9, CpOk TJ GG c := by
  intro c hc
  rcases List.mem_cons.mp hc with rfl | hc
  · exact cz_ok (by decide) (row_in (kd := 102) (by decide +kernel))
  rcases List.mem_cons.mp hc with rfl | hc
  · exact cz_ok (by decide) (row_in (kd := 102) (by decide +kernel))
  rcases List.mem_cons.mp hc with rfl | hc
  · exact cl_ok (by decide)
  rcases List.mem_cons.mp hc with rfl | hc
  · exact cf_ok (by decide) (by decide) (by decide) (by decide) (by decide) (by decide)
  rcases List.mem_cons.mp hc with rfl | hc
  · exact cg9_ok (by decide) (row_in (kd := 100) (by decide +kernel))
  rcases List.mem_cons.mp hc with rfl | hc
  · exact ctr_ok (by decide) (by decide) (row_in (kd := 100) (by decide +kernel))
  rcases List.mem_cons.mp hc with rfl | hc
  · exact cr_ok (by decide) (fun σ hb => hR30 hb)
  rcases List.mem_cons.mp hc with rfl | hc
  · exact cu_ok
  rcases List.mem_cons.mp hc with rfl | hc
  · exact ceq_ok (by decide) PE9_aptL9 (by decide)
  rcases List.mem_cons.mp hc with rfl | hc
  · exact ceqL_ok (by decide) PL9_apt (by decide)
  rcases List.mem_cons.mp hc with rfl | hc
  · exact ck_ok
  rcases List.mem_cons.mp hc with rfl | hc
  · exact cn_ok (by decide)
  rcases List.mem_cons.mp hc with rfl | hc
  · exact cb_ok
  rcases List.mem_cons.mp hc with rfl | hc
  · exact co_ok
  rcases List.mem_cons.mp hc with rfl | hc
  · exact cw9_ok
  rcases List.mem_cons.mp hc with rfl | hc
  · exact ck_ok
  rcases List.mem_cons.mp hc with rfl | hc
  · exact cv9_ok (by decide)
  rcases List.mem_cons.mp hc with rfl | hc
  · exact cC9_ok (by decide) (by decide) (by decide) (by decide) (by decide) (by decide)
  rcases List.mem_cons.mp hc with rfl | hc
  · exact cR_ok (by decide) WG_okL9
  · cases hc
theorem etg_rgL9 {t : Nat} (h : (ceq PE9L9 : Cp).tg t = true) : 400 ≤ t ∧ t < 500 := by
  have h : (Nat.ble 400 t && Nat.blt t 500) = true := h
  rw [Bool.and_eq_true] at h
  have h1 := Nat.le_of_ble_eq_true h.1
  have h2 := Nat.le_of_ble_eq_true h.2
  omega
theorem etg_fL9 {t : Nat} (h : t < 400 ∨ 500 ≤ t) : (ceq PE9L9 : Cp).tg t = false := by
  cases e : (ceq PE9L9 : Cp).tg t with
  | false => rfl
  | true =>
    have := etg_rgL9 e
    omega
theorem wtg_rg {t : Nat} (h : (cw9 11 13 : Cp).tg t = true) : 530 ≤ t ∧ t < 534 := by
  have h : (Nat.ble 530 t && Nat.ble t 533) = true := h
  rw [Bool.and_eq_true] at h
  have h1 := Nat.le_of_ble_eq_true h.1
  have h2 := Nat.le_of_ble_eq_true h.2
  omega
theorem wtg_f {t : Nat} (h : t < 530 ∨ 534 ≤ t) : (cw9 11 13 : Cp).tg t = false := by
  cases e : (cw9 11 13 : Cp).tg t with
  | false => rfl
  | true =>
    have := wtg_rg e
    omega
theorem ct9_rg {t : Nat} (h : (cC9 15 129 110 26 16 : Cp).tg t = true) : 820 ≤ t ∧ t < 867 := by
  have h : (Nat.ble 820 t && Nat.ble t 866) = true := h
  rw [Bool.and_eq_true] at h
  have h1 := Nat.le_of_ble_eq_true h.1
  have h2 := Nat.le_of_ble_eq_true h.2
  omega
theorem ct9_f {t : Nat} (h : t < 820 ∨ 867 ≤ t) : (cC9 15 129 110 26 16 : Cp).tg t = false := by
  cases e : (cC9 15 129 110 26 16 : Cp).tg t with
  | false => rfl
  | true =>
    have := ct9_rg e
    omega
theorem rtg_rgL9 {t : Nat} (h : (cR 870 999 RWgL9 SL WGL9 : Cp).tg t = true) : 870 ≤ t ∧ t < 1000 := by
  have h : (Nat.ble 870 t && Nat.ble t 999) = true := h
  rw [Bool.and_eq_true] at h
  have h1 := Nat.le_of_ble_eq_true h.1
  have h2 := Nat.le_of_ble_eq_true h.2
  omega
theorem rtg_fL9 {t : Nat} (h : t < 870 ∨ 1000 ≤ t) : (cR 870 999 RWgL9 SL WGL9 : Cp).tg t = false := by
  cases e : (cR 870 999 RWgL9 SL WGL9 : Cp).tg t with
  | false => rfl
  | true =>
    have := rtg_rgL9 e
    omega
theorem apt_0L9 : ∀ c' ∈ ([cz 311 201 4, cl 320 196, cf 110 148 211 210 206, cg9 110 112 183 144, ctr 125 110 20 26, cr QQ, cu 24 25 26, ceq PE9L9, ceqL PL9, ck 11 0 (-4), cn 110 26 20, cb 125 128, co 125, cw9 11 13, ck 12 0 (-4), cv9 126 110 26, cC9 15 129 110 26 16, cR 870 999 RWgL9 SL WGL9] : List Cp), ∀ t, (cz 310 120 16 : Cp).tg t = true → c'.tg t = false := by
  intro c' hc t ht
  have e : t = 310 := Nat.eq_of_beq_eq_true ht
  subst e
  rcases List.mem_cons.mp hc with rfl | hc
  · rfl
  rcases List.mem_cons.mp hc with rfl | hc
  · rfl
  rcases List.mem_cons.mp hc with rfl | hc
  · rfl
  rcases List.mem_cons.mp hc with rfl | hc
  · rfl
  rcases List.mem_cons.mp hc with rfl | hc
  · rfl
  rcases List.mem_cons.mp hc with rfl | hc
  · rfl
  rcases List.mem_cons.mp hc with rfl | hc
  · rfl
  rcases List.mem_cons.mp hc with rfl | hc
  · exact etg_fL9 (by omega)
  rcases List.mem_cons.mp hc with rfl | hc
  · exact ltg_f (by omega)
  rcases List.mem_cons.mp hc with rfl | hc
  · rfl
  rcases List.mem_cons.mp hc with rfl | hc
  · rfl
  rcases List.mem_cons.mp hc with rfl | hc
  · exact btg_f (by omega)
  rcases List.mem_cons.mp hc with rfl | hc
  · exact otg_f (by omega)
  rcases List.mem_cons.mp hc with rfl | hc
  · exact wtg_f (by omega)
  rcases List.mem_cons.mp hc with rfl | hc
  · rfl
  rcases List.mem_cons.mp hc with rfl | hc
  · exact vtg_f (by omega)
  rcases List.mem_cons.mp hc with rfl | hc
  · exact ct9_f (by omega)
  rcases List.mem_cons.mp hc with rfl | hc
  · exact rtg_fL9 (by omega)
  · cases hc
theorem apt_1L9 : ∀ c' ∈ ([cl 320 196, cf 110 148 211 210 206, cg9 110 112 183 144, ctr 125 110 20 26, cr QQ, cu 24 25 26, ceq PE9L9, ceqL PL9, ck 11 0 (-4), cn 110 26 20, cb 125 128, co 125, cw9 11 13, ck 12 0 (-4), cv9 126 110 26, cC9 15 129 110 26 16, cR 870 999 RWgL9 SL WGL9] : List Cp), ∀ t, (cz 311 201 4 : Cp).tg t = true → c'.tg t = false := by
  intro c' hc t ht
  have e : t = 311 := Nat.eq_of_beq_eq_true ht
  subst e
  rcases List.mem_cons.mp hc with rfl | hc
  · rfl
  rcases List.mem_cons.mp hc with rfl | hc
  · rfl
  rcases List.mem_cons.mp hc with rfl | hc
  · rfl
  rcases List.mem_cons.mp hc with rfl | hc
  · rfl
  rcases List.mem_cons.mp hc with rfl | hc
  · rfl
  rcases List.mem_cons.mp hc with rfl | hc
  · rfl
  rcases List.mem_cons.mp hc with rfl | hc
  · exact etg_fL9 (by omega)
  rcases List.mem_cons.mp hc with rfl | hc
  · exact ltg_f (by omega)
  rcases List.mem_cons.mp hc with rfl | hc
  · rfl
  rcases List.mem_cons.mp hc with rfl | hc
  · rfl
  rcases List.mem_cons.mp hc with rfl | hc
  · exact btg_f (by omega)
  rcases List.mem_cons.mp hc with rfl | hc
  · exact otg_f (by omega)
  rcases List.mem_cons.mp hc with rfl | hc
  · exact wtg_f (by omega)
  rcases List.mem_cons.mp hc with rfl | hc
  · rfl
  rcases List.mem_cons.mp hc with rfl | hc
  · exact vtg_f (by omega)
  rcases List.mem_cons.mp hc with rfl | hc
  · exact ct9_f (by omega)
  rcases List.mem_cons.mp hc with rfl | hc
  · exact rtg_fL9 (by omega)
  · cases hc
theorem apt_2L9 : ∀ c' ∈ ([cf 110 148 211 210 206, cg9 110 112 183 144, ctr 125 110 20 26, cr QQ, cu 24 25 26, ceq PE9L9, ceqL PL9, ck 11 0 (-4), cn 110 26 20, cb 125 128, co 125, cw9 11 13, ck 12 0 (-4), cv9 126 110 26, cC9 15 129 110 26 16, cR 870 999 RWgL9 SL WGL9] : List Cp), ∀ t, (cl 320 196 : Cp).tg t = true → c'.tg t = false := by
  intro c' hc t ht
  have e : t = 320 := Nat.eq_of_beq_eq_true ht
  subst e
  rcases List.mem_cons.mp hc with rfl | hc
  · rfl
  rcases List.mem_cons.mp hc with rfl | hc
  · rfl
  rcases List.mem_cons.mp hc with rfl | hc
  · rfl
  rcases List.mem_cons.mp hc with rfl | hc
  · rfl
  rcases List.mem_cons.mp hc with rfl | hc
  · rfl
  rcases List.mem_cons.mp hc with rfl | hc
  · exact etg_fL9 (by omega)
  rcases List.mem_cons.mp hc with rfl | hc
  · exact ltg_f (by omega)
  rcases List.mem_cons.mp hc with rfl | hc
  · rfl
  rcases List.mem_cons.mp hc with rfl | hc
  · rfl
  rcases List.mem_cons.mp hc with rfl | hc
  · exact btg_f (by omega)
  rcases List.mem_cons.mp hc with rfl | hc
  · exact otg_f (by omega)
  rcases List.mem_cons.mp hc with rfl | hc
  · exact wtg_f (by omega)
  rcases List.mem_cons.mp hc with rfl | hc
  · rfl
  rcases List.mem_cons.mp hc with rfl | hc
  · exact vtg_f (by omega)
  rcases List.mem_cons.mp hc with rfl | hc
  · exact ct9_f (by omega)
  rcases List.mem_cons.mp hc with rfl | hc
  · exact rtg_fL9 (by omega)
  · cases hc
theorem apt_4L9 : ∀ c' ∈ ([ctr 125 110 20 26, cr QQ, cu 24 25 26, ceq PE9L9, ceqL PL9, ck 11 0 (-4), cn 110 26 20, cb 125 128, co 125, cw9 11 13, ck 12 0 (-4), cv9 126 110 26, cC9 15 129 110 26 16, cR 870 999 RWgL9 SL WGL9] : List Cp), ∀ t, (cg9 110 112 183 144 : Cp).tg t = true → c'.tg t = false := by
  intro c' hc t ht
  have ht : (Nat.beq t 330 || Nat.beq t 331) = true := ht
  rw [Bool.or_eq_true] at ht
  rcases List.mem_cons.mp hc with rfl | hc
  · rcases ht with ht | ht <;> rw [Nat.eq_of_beq_eq_true ht] <;> rfl
  rcases List.mem_cons.mp hc with rfl | hc
  · rcases ht with ht | ht <;> rw [Nat.eq_of_beq_eq_true ht] <;> rfl
  rcases List.mem_cons.mp hc with rfl | hc
  · rcases ht with ht | ht <;> rw [Nat.eq_of_beq_eq_true ht] <;> rfl
  rcases List.mem_cons.mp hc with rfl | hc
  · rcases ht with ht | ht <;> rw [Nat.eq_of_beq_eq_true ht] <;> exact etg_fL9 (by omega)
  rcases List.mem_cons.mp hc with rfl | hc
  · rcases ht with ht | ht <;> rw [Nat.eq_of_beq_eq_true ht] <;> exact ltg_f (by omega)
  rcases List.mem_cons.mp hc with rfl | hc
  · rcases ht with ht | ht <;> rw [Nat.eq_of_beq_eq_true ht] <;> rfl
  rcases List.mem_cons.mp hc with rfl | hc
  · rcases ht with ht | ht <;> rw [Nat.eq_of_beq_eq_true ht] <;> rfl
  rcases List.mem_cons.mp hc with rfl | hc
  · rcases ht with ht | ht <;> rw [Nat.eq_of_beq_eq_true ht] <;> exact btg_f (by omega)
  rcases List.mem_cons.mp hc with rfl | hc
  · rcases ht with ht | ht <;> rw [Nat.eq_of_beq_eq_true ht] <;> exact otg_f (by omega)
  rcases List.mem_cons.mp hc with rfl | hc
  · rcases ht with ht | ht <;> rw [Nat.eq_of_beq_eq_true ht] <;> exact wtg_f (by omega)
  rcases List.mem_cons.mp hc with rfl | hc
  · rcases ht with ht | ht <;> rw [Nat.eq_of_beq_eq_true ht] <;> rfl
  rcases List.mem_cons.mp hc with rfl | hc
  · rcases ht with ht | ht <;> rw [Nat.eq_of_beq_eq_true ht] <;> exact vtg_f (by omega)
  rcases List.mem_cons.mp hc with rfl | hc
  · rcases ht with ht | ht <;> rw [Nat.eq_of_beq_eq_true ht] <;> exact ct9_f (by omega)
  rcases List.mem_cons.mp hc with rfl | hc
  · rcases ht with ht | ht <;> rw [Nat.eq_of_beq_eq_true ht] <;> exact rtg_fL9 (by omega)
  · cases hc
theorem apt_5L9 : ∀ c' ∈ ([cr QQ, cu 24 25 26, ceq PE9L9, ceqL PL9, ck 11 0 (-4), cn 110 26 20, cb 125 128, co 125, cw9 11 13, ck 12 0 (-4), cv9 126 110 26, cC9 15 129 110 26 16, cR 870 999 RWgL9 SL WGL9] : List Cp), ∀ t, (ctr 125 110 20 26 : Cp).tg t = true → c'.tg t = false := by
  intro c' hc t ht
  have ht2 : t = 300 ∨ t = 301 ∨ t = 302 ∨ t = 303 ∨ t = 304 ∨ t = 340 := tgC ht
  rcases List.mem_cons.mp hc with rfl | hc
  · rcases ht2 with rfl | rfl | rfl | rfl | rfl | rfl <;> rfl
  rcases List.mem_cons.mp hc with rfl | hc
  · rcases ht2 with rfl | rfl | rfl | rfl | rfl | rfl <;> rfl
  rcases List.mem_cons.mp hc with rfl | hc
  · rcases ht2 with rfl | rfl | rfl | rfl | rfl | rfl <;> exact etg_fL9 (by omega)
  rcases List.mem_cons.mp hc with rfl | hc
  · rcases ht2 with rfl | rfl | rfl | rfl | rfl | rfl <;> exact ltg_f (by omega)
  rcases List.mem_cons.mp hc with rfl | hc
  · rcases ht2 with rfl | rfl | rfl | rfl | rfl | rfl <;> rfl
  rcases List.mem_cons.mp hc with rfl | hc
  · rcases ht2 with rfl | rfl | rfl | rfl | rfl | rfl <;> rfl
  rcases List.mem_cons.mp hc with rfl | hc
  · rcases ht2 with rfl | rfl | rfl | rfl | rfl | rfl <;> exact btg_f (by omega)
  rcases List.mem_cons.mp hc with rfl | hc
  · rcases ht2 with rfl | rfl | rfl | rfl | rfl | rfl <;> exact otg_f (by omega)
  rcases List.mem_cons.mp hc with rfl | hc
  · rcases ht2 with rfl | rfl | rfl | rfl | rfl | rfl <;> exact wtg_f (by omega)
  rcases List.mem_cons.mp hc with rfl | hc
  · rcases ht2 with rfl | rfl | rfl | rfl | rfl | rfl <;> rfl
  rcases List.mem_cons.mp hc with rfl | hc
  · rcases ht2 with rfl | rfl | rfl | rfl | rfl | rfl <;> exact vtg_f (by omega)
  rcases List.mem_cons.mp hc with rfl | hc
  · rcases ht2 with rfl | rfl | rfl | rfl | rfl | rfl <;> exact ct9_f (by omega)
  rcases List.mem_cons.mp hc with rfl | hc
  · rcases ht2 with rfl | rfl | rfl | rfl | rfl | rfl <;> exact rtg_fL9 (by omega)
  · cases hc
theorem apt_6L9 : ∀ c' ∈ ([cu 24 25 26, ceq PE9L9, ceqL PL9, ck 11 0 (-4), cn 110 26 20, cb 125 128, co 125, cw9 11 13, ck 12 0 (-4), cv9 126 110 26, cC9 15 129 110 26 16, cR 870 999 RWgL9 SL WGL9] : List Cp), ∀ t, (cr QQ : Cp).tg t = true → c'.tg t = false := by
  intro c' hc t ht
  have ht2 : t = 312 ∨ t = 313 ∨ t = 314 ∨ t = 321 ∨ t = 322 ∨ t = 323 ∨ t = 324 ∨ t = 325 ∨ t = 326 ∨ t = 327 ∨ t = 328 ∨ t = 341 := tgQ ht
  rcases List.mem_cons.mp hc with rfl | hc
  · rcases ht2 with rfl | rfl | rfl | rfl | rfl | rfl | rfl | rfl | rfl | rfl | rfl | rfl <;> rfl
  rcases List.mem_cons.mp hc with rfl | hc
  · rcases ht2 with rfl | rfl | rfl | rfl | rfl | rfl | rfl | rfl | rfl | rfl | rfl | rfl <;> exact etg_fL9 (by omega)
  rcases List.mem_cons.mp hc with rfl | hc
  · rcases ht2 with rfl | rfl | rfl | rfl | rfl | rfl | rfl | rfl | rfl | rfl | rfl | rfl <;> exact ltg_f (by omega)
  rcases List.mem_cons.mp hc with rfl | hc
  · rcases ht2 with rfl | rfl | rfl | rfl | rfl | rfl | rfl | rfl | rfl | rfl | rfl | rfl <;> rfl
  rcases List.mem_cons.mp hc with rfl | hc
  · rcases ht2 with rfl | rfl | rfl | rfl | rfl | rfl | rfl | rfl | rfl | rfl | rfl | rfl <;> rfl
  rcases List.mem_cons.mp hc with rfl | hc
  · rcases ht2 with rfl | rfl | rfl | rfl | rfl | rfl | rfl | rfl | rfl | rfl | rfl | rfl <;> exact btg_f (by omega)
  rcases List.mem_cons.mp hc with rfl | hc
  · rcases ht2 with rfl | rfl | rfl | rfl | rfl | rfl | rfl | rfl | rfl | rfl | rfl | rfl <;> exact otg_f (by omega)
  rcases List.mem_cons.mp hc with rfl | hc
  · rcases ht2 with rfl | rfl | rfl | rfl | rfl | rfl | rfl | rfl | rfl | rfl | rfl | rfl <;> exact wtg_f (by omega)
  rcases List.mem_cons.mp hc with rfl | hc
  · rcases ht2 with rfl | rfl | rfl | rfl | rfl | rfl | rfl | rfl | rfl | rfl | rfl | rfl <;> rfl
  rcases List.mem_cons.mp hc with rfl | hc
  · rcases ht2 with rfl | rfl | rfl | rfl | rfl | rfl | rfl | rfl | rfl | rfl | rfl | rfl <;> exact vtg_f (by omega)
  rcases List.mem_cons.mp hc with rfl | hc
  · rcases ht2 with rfl | rfl | rfl | rfl | rfl | rfl | rfl | rfl | rfl | rfl | rfl | rfl <;> exact ct9_f (by omega)
  rcases List.mem_cons.mp hc with rfl | hc
  · rcases ht2 with rfl | rfl | rfl | rfl | rfl | rfl | rfl | rfl | rfl | rfl | rfl | rfl <;> exact rtg_fL9 (by omega)
  · cases hc
theorem apt_7L9 : ∀ c' ∈ ([ceq PE9L9, ceqL PL9, ck 11 0 (-4), cn 110 26 20, cb 125 128, co 125, cw9 11 13, ck 12 0 (-4), cv9 126 110 26, cC9 15 129 110 26 16, cR 870 999 RWgL9 SL WGL9] : List Cp), ∀ t, (cu 24 25 26 : Cp).tg t = true → c'.tg t = false := by
  intro c' hc t ht
  have ht : (Nat.beq t 306 || Nat.beq t 307) = true := ht
  rw [Bool.or_eq_true] at ht
  rcases List.mem_cons.mp hc with rfl | hc
  · rcases ht with ht | ht <;> rw [Nat.eq_of_beq_eq_true ht] <;> exact etg_fL9 (by omega)
  rcases List.mem_cons.mp hc with rfl | hc
  · rcases ht with ht | ht <;> rw [Nat.eq_of_beq_eq_true ht] <;> exact ltg_f (by omega)
  rcases List.mem_cons.mp hc with rfl | hc
  · rcases ht with ht | ht <;> rw [Nat.eq_of_beq_eq_true ht] <;> rfl
  rcases List.mem_cons.mp hc with rfl | hc
  · rcases ht with ht | ht <;> rw [Nat.eq_of_beq_eq_true ht] <;> rfl
  rcases List.mem_cons.mp hc with rfl | hc
  · rcases ht with ht | ht <;> rw [Nat.eq_of_beq_eq_true ht] <;> exact btg_f (by omega)
  rcases List.mem_cons.mp hc with rfl | hc
  · rcases ht with ht | ht <;> rw [Nat.eq_of_beq_eq_true ht] <;> exact otg_f (by omega)
  rcases List.mem_cons.mp hc with rfl | hc
  · rcases ht with ht | ht <;> rw [Nat.eq_of_beq_eq_true ht] <;> exact wtg_f (by omega)
  rcases List.mem_cons.mp hc with rfl | hc
  · rcases ht with ht | ht <;> rw [Nat.eq_of_beq_eq_true ht] <;> rfl
  rcases List.mem_cons.mp hc with rfl | hc
  · rcases ht with ht | ht <;> rw [Nat.eq_of_beq_eq_true ht] <;> exact vtg_f (by omega)
  rcases List.mem_cons.mp hc with rfl | hc
  · rcases ht with ht | ht <;> rw [Nat.eq_of_beq_eq_true ht] <;> exact ct9_f (by omega)
  rcases List.mem_cons.mp hc with rfl | hc
  · rcases ht with ht | ht <;> rw [Nat.eq_of_beq_eq_true ht] <;> exact rtg_fL9 (by omega)
  · cases hc
theorem apt_8L9 : ∀ c' ∈ ([ceqL PL9, ck 11 0 (-4), cn 110 26 20, cb 125 128, co 125, cw9 11 13, ck 12 0 (-4), cv9 126 110 26, cC9 15 129 110 26 16, cR 870 999 RWgL9 SL WGL9] : List Cp), ∀ t, (ceq PE9L9 : Cp).tg t = true → c'.tg t = false := by
  intro c' hc t ht
  have r9 := etg_rgL9 ht
  rcases List.mem_cons.mp hc with rfl | hc
  · exact ltg_f (by omega)
  rcases List.mem_cons.mp hc with rfl | hc
  · rfl
  rcases List.mem_cons.mp hc with rfl | hc
  · rfl
  rcases List.mem_cons.mp hc with rfl | hc
  · exact btg_f (by omega)
  rcases List.mem_cons.mp hc with rfl | hc
  · exact otg_f (by omega)
  rcases List.mem_cons.mp hc with rfl | hc
  · exact wtg_f (by omega)
  rcases List.mem_cons.mp hc with rfl | hc
  · rfl
  rcases List.mem_cons.mp hc with rfl | hc
  · exact vtg_f (by omega)
  rcases List.mem_cons.mp hc with rfl | hc
  · exact ct9_f (by omega)
  rcases List.mem_cons.mp hc with rfl | hc
  · exact rtg_fL9 (by omega)
  · cases hc
theorem apt_9L9 : ∀ c' ∈ ([ck 11 0 (-4), cn 110 26 20, cb 125 128, co 125, cw9 11 13, ck 12 0 (-4), cv9 126 110 26, cC9 15 129 110 26 16, cR 870 999 RWgL9 SL WGL9] : List Cp), ∀ t, (ceqL PL9 : Cp).tg t = true → c'.tg t = false := by
  intro c' hc t ht
  have r9 := ltg_rg ht
  rcases List.mem_cons.mp hc with rfl | hc
  · rfl
  rcases List.mem_cons.mp hc with rfl | hc
  · rfl
  rcases List.mem_cons.mp hc with rfl | hc
  · exact btg_f (by omega)
  rcases List.mem_cons.mp hc with rfl | hc
  · exact otg_f (by omega)
  rcases List.mem_cons.mp hc with rfl | hc
  · exact wtg_f (by omega)
  rcases List.mem_cons.mp hc with rfl | hc
  · rfl
  rcases List.mem_cons.mp hc with rfl | hc
  · exact vtg_f (by omega)
  rcases List.mem_cons.mp hc with rfl | hc
  · exact ct9_f (by omega)
  rcases List.mem_cons.mp hc with rfl | hc
  · exact rtg_fL9 (by omega)
  · cases hc
theorem apt_12L9 : ∀ c' ∈ ([co 125, cw9 11 13, ck 12 0 (-4), cv9 126 110 26, cC9 15 129 110 26 16, cR 870 999 RWgL9 SL WGL9] : List Cp), ∀ t, (cb 125 128 : Cp).tg t = true → c'.tg t = false := by
  intro c' hc t ht
  have r9 := btg_rg ht
  rcases List.mem_cons.mp hc with rfl | hc
  · exact otg_f (by omega)
  rcases List.mem_cons.mp hc with rfl | hc
  · exact wtg_f (by omega)
  rcases List.mem_cons.mp hc with rfl | hc
  · rfl
  rcases List.mem_cons.mp hc with rfl | hc
  · exact vtg_f (by omega)
  rcases List.mem_cons.mp hc with rfl | hc
  · exact ct9_f (by omega)
  rcases List.mem_cons.mp hc with rfl | hc
  · exact rtg_fL9 (by omega)
  · cases hc
theorem apt_13L9 : ∀ c' ∈ ([cw9 11 13, ck 12 0 (-4), cv9 126 110 26, cC9 15 129 110 26 16, cR 870 999 RWgL9 SL WGL9] : List Cp), ∀ t, (co 125 : Cp).tg t = true → c'.tg t = false := by
  intro c' hc t ht
  have r9 := otg_rg ht
  rcases List.mem_cons.mp hc with rfl | hc
  · exact wtg_f (by omega)
  rcases List.mem_cons.mp hc with rfl | hc
  · rfl
  rcases List.mem_cons.mp hc with rfl | hc
  · exact vtg_f (by omega)
  rcases List.mem_cons.mp hc with rfl | hc
  · exact ct9_f (by omega)
  rcases List.mem_cons.mp hc with rfl | hc
  · exact rtg_fL9 (by omega)
  · cases hc
theorem apt_14 : ∀ c' ∈ ([ck 12 0 (-4), cv9 126 110 26, cC9 15 129 110 26 16, cR 870 999 RWgL9 SL WGL9] : List Cp), ∀ t, (cw9 11 13 : Cp).tg t = true → c'.tg t = false := by
  intro c' hc t ht
  have r9 := wtg_rg ht
  rcases List.mem_cons.mp hc with rfl | hc
  · rfl
  rcases List.mem_cons.mp hc with rfl | hc
  · exact vtg_f (by omega)
  rcases List.mem_cons.mp hc with rfl | hc
  · exact ct9_f (by omega)
  rcases List.mem_cons.mp hc with rfl | hc
  · exact rtg_fL9 (by omega)
  · cases hc
theorem apt_16L9 : ∀ c' ∈ ([cC9 15 129 110 26 16, cR 870 999 RWgL9 SL WGL9] : List Cp), ∀ t, (cv9 126 110 26 : Cp).tg t = true → c'.tg t = false := by
  intro c' hc t ht
  have r9 := vtg_rg ht
  rcases List.mem_cons.mp hc with rfl | hc
  · exact ct9_f (by omega)
  rcases List.mem_cons.mp hc with rfl | hc
  · exact rtg_fL9 (by omega)
  · cases hc
theorem apt_17 : ∀ c' ∈ ([cR 870 999 RWgL9 SL WGL9] : List Cp), ∀ t, (cC9 15 129 110 26 16 : Cp).tg t = true → c'.tg t = false := by
  intro c' hc t ht
  have r9 := ct9_rg ht
  rcases List.mem_cons.mp hc with rfl | hc
  · exact rtg_fL9 (by omega)
  · cases hc
theorem apt_18 : ∀ c' ∈ ([] : List Cp), ∀ t, (cR 870 999 RWgL9 SL WGL9 : Cp).tg t = true → c'.tg t = false := by
  intro c' hc t ht
  cases hc
theorem CS_aptL9 : Apt CSL9 := ⟨apt_0L9, ⟨apt_1L9, ⟨apt_2L9, ⟨fun c _ t ht => (by cases ht), ⟨apt_4L9, ⟨apt_5L9, ⟨apt_6L9, ⟨apt_7L9, ⟨apt_8L9, ⟨apt_9L9, ⟨fun c _ t ht => (by cases ht), ⟨fun c _ t ht => (by cases ht), ⟨apt_12L9, ⟨apt_13L9, ⟨apt_14, ⟨fun c _ t ht => (by cases ht), ⟨apt_16L9, ⟨apt_17, ⟨apt_18, trivial⟩⟩⟩⟩⟩⟩⟩⟩⟩⟩⟩⟩⟩⟩⟩⟩⟩⟩⟩
theorem u310L9 : ∀ c ∈ CSL9, c.tg 310 = true → c = cz 310 120 16 := by
  intro c hc h
  rcases List.mem_cons.mp hc with rfl | hc
  · rfl
  rcases List.mem_cons.mp hc with rfl | hc
  · cases h
  rcases List.mem_cons.mp hc with rfl | hc
  · cases h
  rcases List.mem_cons.mp hc with rfl | hc
  · cases h
  rcases List.mem_cons.mp hc with rfl | hc
  · cases h
  rcases List.mem_cons.mp hc with rfl | hc
  · cases h
  rcases List.mem_cons.mp hc with rfl | hc
  · exact absurd h (by decide)
  rcases List.mem_cons.mp hc with rfl | hc
  · exact absurd h (by decide)
  rcases List.mem_cons.mp hc with rfl | hc
  · rw [etg_fL9 (by omega)] at h; cases h
  rcases List.mem_cons.mp hc with rfl | hc
  · rw [ltg_f (by omega)] at h; cases h
  rcases List.mem_cons.mp hc with rfl | hc
  · cases h
  rcases List.mem_cons.mp hc with rfl | hc
  · cases h
  rcases List.mem_cons.mp hc with rfl | hc
  · rw [btg_f (by omega)] at h; cases h
  rcases List.mem_cons.mp hc with rfl | hc
  · rw [otg_f (by omega)] at h; cases h
  rcases List.mem_cons.mp hc with rfl | hc
  · rw [wtg_f (by omega)] at h; cases h
  rcases List.mem_cons.mp hc with rfl | hc
  · cases h
  rcases List.mem_cons.mp hc with rfl | hc
  · rw [vtg_f (by omega)] at h; cases h
  rcases List.mem_cons.mp hc with rfl | hc
  · rw [ct9_f (by omega)] at h; cases h
  rcases List.mem_cons.mp hc with rfl | hc
  · rw [rtg_fL9 (by omega)] at h; cases h
  · cases hc
theorem u311L9 : ∀ c ∈ CSL9, c.tg 311 = true → c = cz 311 201 4 := by
  intro c hc h
  rcases List.mem_cons.mp hc with rfl | hc
  · cases h
  rcases List.mem_cons.mp hc with rfl | hc
  · rfl
  rcases List.mem_cons.mp hc with rfl | hc
  · cases h
  rcases List.mem_cons.mp hc with rfl | hc
  · cases h
  rcases List.mem_cons.mp hc with rfl | hc
  · cases h
  rcases List.mem_cons.mp hc with rfl | hc
  · cases h
  rcases List.mem_cons.mp hc with rfl | hc
  · exact absurd h (by decide)
  rcases List.mem_cons.mp hc with rfl | hc
  · exact absurd h (by decide)
  rcases List.mem_cons.mp hc with rfl | hc
  · rw [etg_fL9 (by omega)] at h; cases h
  rcases List.mem_cons.mp hc with rfl | hc
  · rw [ltg_f (by omega)] at h; cases h
  rcases List.mem_cons.mp hc with rfl | hc
  · cases h
  rcases List.mem_cons.mp hc with rfl | hc
  · cases h
  rcases List.mem_cons.mp hc with rfl | hc
  · rw [btg_f (by omega)] at h; cases h
  rcases List.mem_cons.mp hc with rfl | hc
  · rw [otg_f (by omega)] at h; cases h
  rcases List.mem_cons.mp hc with rfl | hc
  · rw [wtg_f (by omega)] at h; cases h
  rcases List.mem_cons.mp hc with rfl | hc
  · cases h
  rcases List.mem_cons.mp hc with rfl | hc
  · rw [vtg_f (by omega)] at h; cases h
  rcases List.mem_cons.mp hc with rfl | hc
  · rw [ct9_f (by omega)] at h; cases h
  rcases List.mem_cons.mp hc with rfl | hc
  · rw [rtg_fL9 (by omega)] at h; cases h
  · cases hc
theorem u320L9 : ∀ c ∈ CSL9, c.tg 320 = true → c = cl 320 196 := by
  intro c hc h
  rcases List.mem_cons.mp hc with rfl | hc
  · cases h
  rcases List.mem_cons.mp hc with rfl | hc
  · cases h
  rcases List.mem_cons.mp hc with rfl | hc
  · rfl
  rcases List.mem_cons.mp hc with rfl | hc
  · cases h
  rcases List.mem_cons.mp hc with rfl | hc
  · cases h
  rcases List.mem_cons.mp hc with rfl | hc
  · cases h
  rcases List.mem_cons.mp hc with rfl | hc
  · exact absurd h (by decide)
  rcases List.mem_cons.mp hc with rfl | hc
  · exact absurd h (by decide)
  rcases List.mem_cons.mp hc with rfl | hc
  · rw [etg_fL9 (by omega)] at h; cases h
  rcases List.mem_cons.mp hc with rfl | hc
  · rw [ltg_f (by omega)] at h; cases h
  rcases List.mem_cons.mp hc with rfl | hc
  · cases h
  rcases List.mem_cons.mp hc with rfl | hc
  · cases h
  rcases List.mem_cons.mp hc with rfl | hc
  · rw [btg_f (by omega)] at h; cases h
  rcases List.mem_cons.mp hc with rfl | hc
  · rw [otg_f (by omega)] at h; cases h
  rcases List.mem_cons.mp hc with rfl | hc
  · rw [wtg_f (by omega)] at h; cases h
  rcases List.mem_cons.mp hc with rfl | hc
  · cases h
  rcases List.mem_cons.mp hc with rfl | hc
  · rw [vtg_f (by omega)] at h; cases h
  rcases List.mem_cons.mp hc with rfl | hc
  · rw [ct9_f (by omega)] at h; cases h
  rcases List.mem_cons.mp hc with rfl | hc
  · rw [rtg_fL9 (by omega)] at h; cases h
  · cases hc
theorem u331L9 : ∀ c ∈ CSL9, c.tg 331 = true → c = cg9 110 112 183 144 := by
  intro c hc h
  rcases List.mem_cons.mp hc with rfl | hc
  · cases h
  rcases List.mem_cons.mp hc with rfl | hc
  · cases h
  rcases List.mem_cons.mp hc with rfl | hc
  · cases h
  rcases List.mem_cons.mp hc with rfl | hc
  · cases h
  rcases List.mem_cons.mp hc with rfl | hc
  · rfl
  rcases List.mem_cons.mp hc with rfl | hc
  · cases h
  rcases List.mem_cons.mp hc with rfl | hc
  · exact absurd h (by decide)
  rcases List.mem_cons.mp hc with rfl | hc
  · exact absurd h (by decide)
  rcases List.mem_cons.mp hc with rfl | hc
  · rw [etg_fL9 (by omega)] at h; cases h
  rcases List.mem_cons.mp hc with rfl | hc
  · rw [ltg_f (by omega)] at h; cases h
  rcases List.mem_cons.mp hc with rfl | hc
  · cases h
  rcases List.mem_cons.mp hc with rfl | hc
  · cases h
  rcases List.mem_cons.mp hc with rfl | hc
  · rw [btg_f (by omega)] at h; cases h
  rcases List.mem_cons.mp hc with rfl | hc
  · rw [otg_f (by omega)] at h; cases h
  rcases List.mem_cons.mp hc with rfl | hc
  · rw [wtg_f (by omega)] at h; cases h
  rcases List.mem_cons.mp hc with rfl | hc
  · cases h
  rcases List.mem_cons.mp hc with rfl | hc
  · rw [vtg_f (by omega)] at h; cases h
  rcases List.mem_cons.mp hc with rfl | hc
  · rw [ct9_f (by omega)] at h; cases h
  rcases List.mem_cons.mp hc with rfl | hc
  · rw [rtg_fL9 (by omega)] at h; cases h
  · cases hc
theorem m310L9 : cz 310 120 16 ∈ CSL9 := List.mem_cons_self ..
theorem m311L9 : cz 311 201 4 ∈ CSL9 := List.mem_cons_of_mem _ (List.mem_cons_self ..)
theorem m320L9 : cl 320 196 ∈ CSL9 := List.mem_cons_of_mem _ (List.mem_cons_of_mem _ (List.mem_cons_self ..))
theorem mcfL9 : cf 110 148 211 210 206 ∈ CSL9 := List.mem_cons_of_mem _ (List.mem_cons_of_mem _ (List.mem_cons_of_mem _ (List.mem_cons_self ..)))
theorem mcgL9 : cg9 110 112 183 144 ∈ CSL9 := List.mem_cons_of_mem _ (List.mem_cons_of_mem _ (List.mem_cons_of_mem _ (List.mem_cons_of_mem _ (List.mem_cons_self ..))))
theorem mctL9 : ctr 125 110 20 26 ∈ CSL9 := List.mem_cons_of_mem _ (List.mem_cons_of_mem _ (List.mem_cons_of_mem _ (List.mem_cons_of_mem _ (List.mem_cons_of_mem _ (List.mem_cons_self ..)))))
theorem mcrL9 : cr QQ ∈ CSL9 := List.mem_cons_of_mem _ (List.mem_cons_of_mem _ (List.mem_cons_of_mem _ (List.mem_cons_of_mem _ (List.mem_cons_of_mem _ (List.mem_cons_of_mem _ (List.mem_cons_self ..))))))
theorem mcuL9 : cu 24 25 26 ∈ CSL9 := List.mem_cons_of_mem _ (List.mem_cons_of_mem _ (List.mem_cons_of_mem _ (List.mem_cons_of_mem _ (List.mem_cons_of_mem _ (List.mem_cons_of_mem _ (List.mem_cons_of_mem _ (List.mem_cons_self ..)))))))
theorem mceL9 : ceq PE9L9 ∈ CSL9 := List.mem_cons_of_mem _ (List.mem_cons_of_mem _ (List.mem_cons_of_mem _ (List.mem_cons_of_mem _ (List.mem_cons_of_mem _ (List.mem_cons_of_mem _ (List.mem_cons_of_mem _ (List.mem_cons_of_mem _ (List.mem_cons_self ..))))))))
theorem mclL9 : ceqL PL9 ∈ CSL9 := List.mem_cons_of_mem _ (List.mem_cons_of_mem _ (List.mem_cons_of_mem _ (List.mem_cons_of_mem _ (List.mem_cons_of_mem _ (List.mem_cons_of_mem _ (List.mem_cons_of_mem _ (List.mem_cons_of_mem _ (List.mem_cons_of_mem _ (List.mem_cons_self ..)))))))))
theorem mckL9 : ck 11 0 (-4) ∈ CSL9 := List.mem_cons_of_mem _ (List.mem_cons_of_mem _ (List.mem_cons_of_mem _ (List.mem_cons_of_mem _ (List.mem_cons_of_mem _ (List.mem_cons_of_mem _ (List.mem_cons_of_mem _ (List.mem_cons_of_mem _ (List.mem_cons_of_mem _ (List.mem_cons_of_mem _ (List.mem_cons_self ..))))))))))
theorem mcnL9 : cn 110 26 20 ∈ CSL9 := List.mem_cons_of_mem _ (List.mem_cons_of_mem _ (List.mem_cons_of_mem _ (List.mem_cons_of_mem _ (List.mem_cons_of_mem _ (List.mem_cons_of_mem _ (List.mem_cons_of_mem _ (List.mem_cons_of_mem _ (List.mem_cons_of_mem _ (List.mem_cons_of_mem _ (List.mem_cons_of_mem _ (List.mem_cons_self ..)))))))))))
theorem mcbL9 : cb 125 128 ∈ CSL9 := List.mem_cons_of_mem _ (List.mem_cons_of_mem _ (List.mem_cons_of_mem _ (List.mem_cons_of_mem _ (List.mem_cons_of_mem _ (List.mem_cons_of_mem _ (List.mem_cons_of_mem _ (List.mem_cons_of_mem _ (List.mem_cons_of_mem _ (List.mem_cons_of_mem _ (List.mem_cons_of_mem _ (List.mem_cons_of_mem _ (List.mem_cons_self ..))))))))))))
theorem mcoL9 : co 125 ∈ CSL9 := List.mem_cons_of_mem _ (List.mem_cons_of_mem _ (List.mem_cons_of_mem _ (List.mem_cons_of_mem _ (List.mem_cons_of_mem _ (List.mem_cons_of_mem _ (List.mem_cons_of_mem _ (List.mem_cons_of_mem _ (List.mem_cons_of_mem _ (List.mem_cons_of_mem _ (List.mem_cons_of_mem _ (List.mem_cons_of_mem _ (List.mem_cons_of_mem _ (List.mem_cons_self ..)))))))))))))
theorem mcw : cw9 11 13 ∈ CSL9 := List.mem_cons_of_mem _ (List.mem_cons_of_mem _ (List.mem_cons_of_mem _ (List.mem_cons_of_mem _ (List.mem_cons_of_mem _ (List.mem_cons_of_mem _ (List.mem_cons_of_mem _ (List.mem_cons_of_mem _ (List.mem_cons_of_mem _ (List.mem_cons_of_mem _ (List.mem_cons_of_mem _ (List.mem_cons_of_mem _ (List.mem_cons_of_mem _ (List.mem_cons_of_mem _ (List.mem_cons_self ..))))))))))))))
theorem mck2L9 : ck 12 0 (-4) ∈ CSL9 := List.mem_cons_of_mem _ (List.mem_cons_of_mem _ (List.mem_cons_of_mem _ (List.mem_cons_of_mem _ (List.mem_cons_of_mem _ (List.mem_cons_of_mem _ (List.mem_cons_of_mem _ (List.mem_cons_of_mem _ (List.mem_cons_of_mem _ (List.mem_cons_of_mem _ (List.mem_cons_of_mem _ (List.mem_cons_of_mem _ (List.mem_cons_of_mem _ (List.mem_cons_of_mem _ (List.mem_cons_of_mem _ (List.mem_cons_self ..)))))))))))))))
theorem mcvL9 : cv9 126 110 26 ∈ CSL9 := List.mem_cons_of_mem _ (List.mem_cons_of_mem _ (List.mem_cons_of_mem _ (List.mem_cons_of_mem _ (List.mem_cons_of_mem _ (List.mem_cons_of_mem _ (List.mem_cons_of_mem _ (List.mem_cons_of_mem _ (List.mem_cons_of_mem _ (List.mem_cons_of_mem _ (List.mem_cons_of_mem _ (List.mem_cons_of_mem _ (List.mem_cons_of_mem _ (List.mem_cons_of_mem _ (List.mem_cons_of_mem _ (List.mem_cons_of_mem _ (List.mem_cons_self ..))))))))))))))))
theorem mcB : cC9 15 129 110 26 16 ∈ CSL9 := List.mem_cons_of_mem _ (List.mem_cons_of_mem _ (List.mem_cons_of_mem _ (List.mem_cons_of_mem _ (List.mem_cons_of_mem _ (List.mem_cons_of_mem _ (List.mem_cons_of_mem _ (List.mem_cons_of_mem _ (List.mem_cons_of_mem _ (List.mem_cons_of_mem _ (List.mem_cons_of_mem _ (List.mem_cons_of_mem _ (List.mem_cons_of_mem _ (List.mem_cons_of_mem _ (List.mem_cons_of_mem _ (List.mem_cons_of_mem _ (List.mem_cons_of_mem _ (List.mem_cons_self ..)))))))))))))))))
theorem mcRL9 : cR 870 999 RWgL9 SL WGL9 ∈ CSL9 := List.mem_cons_of_mem _ (List.mem_cons_of_mem _ (List.mem_cons_of_mem _ (List.mem_cons_of_mem _ (List.mem_cons_of_mem _ (List.mem_cons_of_mem _ (List.mem_cons_of_mem _ (List.mem_cons_of_mem _ (List.mem_cons_of_mem _ (List.mem_cons_of_mem _ (List.mem_cons_of_mem _ (List.mem_cons_of_mem _ (List.mem_cons_of_mem _ (List.mem_cons_of_mem _ (List.mem_cons_of_mem _ (List.mem_cons_of_mem _ (List.mem_cons_of_mem _ (List.mem_cons_of_mem _ (List.mem_cons_self ..))))))))))))))))))
theorem uQL9 : ∀ c ∈ CSL9, ∀ t : Nat, qtg t = true → c.tg t = true → c = cr QQ := by
  intro c hc t h0 h
  rcases List.mem_cons.mp hc with rfl | hc
  · rcases tgQ h0 with rfl | rfl | rfl | rfl | rfl | rfl | rfl | rfl | rfl | rfl | rfl | rfl <;> exact absurd h (by decide)
  rcases List.mem_cons.mp hc with rfl | hc
  · rcases tgQ h0 with rfl | rfl | rfl | rfl | rfl | rfl | rfl | rfl | rfl | rfl | rfl | rfl <;> exact absurd h (by decide)
  rcases List.mem_cons.mp hc with rfl | hc
  · rcases tgQ h0 with rfl | rfl | rfl | rfl | rfl | rfl | rfl | rfl | rfl | rfl | rfl | rfl <;> exact absurd h (by decide)
  rcases List.mem_cons.mp hc with rfl | hc
  · rcases tgQ h0 with rfl | rfl | rfl | rfl | rfl | rfl | rfl | rfl | rfl | rfl | rfl | rfl <;> exact absurd h (by decide)
  rcases List.mem_cons.mp hc with rfl | hc
  · rcases tgQ h0 with rfl | rfl | rfl | rfl | rfl | rfl | rfl | rfl | rfl | rfl | rfl | rfl <;> exact absurd h (by decide)
  rcases List.mem_cons.mp hc with rfl | hc
  · rcases tgQ h0 with rfl | rfl | rfl | rfl | rfl | rfl | rfl | rfl | rfl | rfl | rfl | rfl <;> exact absurd h (by decide)
  rcases List.mem_cons.mp hc with rfl | hc
  · rfl
  rcases List.mem_cons.mp hc with rfl | hc
  · rcases tgQ h0 with rfl | rfl | rfl | rfl | rfl | rfl | rfl | rfl | rfl | rfl | rfl | rfl <;> exact absurd h (by decide)
  rcases List.mem_cons.mp hc with rfl | hc
  · rcases tgQ h0 with rfl | rfl | rfl | rfl | rfl | rfl | rfl | rfl | rfl | rfl | rfl | rfl <;> (rw [etg_fL9 (by omega)] at h; cases h)
  rcases List.mem_cons.mp hc with rfl | hc
  · rcases tgQ h0 with rfl | rfl | rfl | rfl | rfl | rfl | rfl | rfl | rfl | rfl | rfl | rfl <;> (rw [ltg_f (by omega)] at h; cases h)
  rcases List.mem_cons.mp hc with rfl | hc
  · cases h
  rcases List.mem_cons.mp hc with rfl | hc
  · cases h
  rcases List.mem_cons.mp hc with rfl | hc
  · rcases tgQ h0 with rfl | rfl | rfl | rfl | rfl | rfl | rfl | rfl | rfl | rfl | rfl | rfl <;> (rw [btg_f (by omega)] at h; cases h)
  rcases List.mem_cons.mp hc with rfl | hc
  · rcases tgQ h0 with rfl | rfl | rfl | rfl | rfl | rfl | rfl | rfl | rfl | rfl | rfl | rfl <;> (rw [otg_f (by omega)] at h; cases h)
  rcases List.mem_cons.mp hc with rfl | hc
  · rcases tgQ h0 with rfl | rfl | rfl | rfl | rfl | rfl | rfl | rfl | rfl | rfl | rfl | rfl <;> (rw [wtg_f (by omega)] at h; cases h)
  rcases List.mem_cons.mp hc with rfl | hc
  · cases h
  rcases List.mem_cons.mp hc with rfl | hc
  · rcases tgQ h0 with rfl | rfl | rfl | rfl | rfl | rfl | rfl | rfl | rfl | rfl | rfl | rfl <;> (rw [vtg_f (by omega)] at h; cases h)
  rcases List.mem_cons.mp hc with rfl | hc
  · rcases tgQ h0 with rfl | rfl | rfl | rfl | rfl | rfl | rfl | rfl | rfl | rfl | rfl | rfl <;> (rw [ct9_f (by omega)] at h; cases h)
  rcases List.mem_cons.mp hc with rfl | hc
  · rcases tgQ h0 with rfl | rfl | rfl | rfl | rfl | rfl | rfl | rfl | rfl | rfl | rfl | rfl <;> (rw [rtg_fL9 (by omega)] at h; cases h)
  · cases hc
theorem uUL9 : ∀ c ∈ CSL9, ∀ t : Nat, utg t = true → c.tg t = true → c = cu 24 25 26 := by
  intro c hc t h0 h
  rcases List.mem_cons.mp hc with rfl | hc
  · rcases tgU h0 with rfl | rfl <;> exact absurd h (by decide)
  rcases List.mem_cons.mp hc with rfl | hc
  · rcases tgU h0 with rfl | rfl <;> exact absurd h (by decide)
  rcases List.mem_cons.mp hc with rfl | hc
  · rcases tgU h0 with rfl | rfl <;> exact absurd h (by decide)
  rcases List.mem_cons.mp hc with rfl | hc
  · rcases tgU h0 with rfl | rfl <;> exact absurd h (by decide)
  rcases List.mem_cons.mp hc with rfl | hc
  · rcases tgU h0 with rfl | rfl <;> exact absurd h (by decide)
  rcases List.mem_cons.mp hc with rfl | hc
  · rcases tgU h0 with rfl | rfl <;> exact absurd h (by decide)
  rcases List.mem_cons.mp hc with rfl | hc
  · rcases tgU h0 with rfl | rfl <;> exact absurd h (by decide)
  rcases List.mem_cons.mp hc with rfl | hc
  · rfl
  rcases List.mem_cons.mp hc with rfl | hc
  · rcases tgU h0 with rfl | rfl <;> (rw [etg_fL9 (by omega)] at h; cases h)
  rcases List.mem_cons.mp hc with rfl | hc
  · rcases tgU h0 with rfl | rfl <;> (rw [ltg_f (by omega)] at h; cases h)
  rcases List.mem_cons.mp hc with rfl | hc
  · cases h
  rcases List.mem_cons.mp hc with rfl | hc
  · cases h
  rcases List.mem_cons.mp hc with rfl | hc
  · rcases tgU h0 with rfl | rfl <;> (rw [btg_f (by omega)] at h; cases h)
  rcases List.mem_cons.mp hc with rfl | hc
  · rcases tgU h0 with rfl | rfl <;> (rw [otg_f (by omega)] at h; cases h)
  rcases List.mem_cons.mp hc with rfl | hc
  · rcases tgU h0 with rfl | rfl <;> (rw [wtg_f (by omega)] at h; cases h)
  rcases List.mem_cons.mp hc with rfl | hc
  · cases h
  rcases List.mem_cons.mp hc with rfl | hc
  · rcases tgU h0 with rfl | rfl <;> (rw [vtg_f (by omega)] at h; cases h)
  rcases List.mem_cons.mp hc with rfl | hc
  · rcases tgU h0 with rfl | rfl <;> (rw [ct9_f (by omega)] at h; cases h)
  rcases List.mem_cons.mp hc with rfl | hc
  · rcases tgU h0 with rfl | rfl <;> (rw [rtg_fL9 (by omega)] at h; cases h)
  · cases hc
theorem qHL9 : QH TJ GG CSL9 QQ := ⟨TJ_wf, CS_okL9, mcrL9, uQL9⟩
theorem uHL9 : UH TJ GG CSL9 24 25 26 := ⟨TJ_wf, CS_okL9, mcuL9, uUL9⟩
theorem uTL9 : ∀ c ∈ CSL9, ∀ t : Nat, 300 ≤ t → t ≤ 304 → c.tg t = true → c = ctr 125 110 20 26 := by
  intro c hc t h1 h2 h
  rcases List.mem_cons.mp hc with rfl | hc
  · have := Nat.eq_of_beq_eq_true h; omega
  rcases List.mem_cons.mp hc with rfl | hc
  · have := Nat.eq_of_beq_eq_true h; omega
  rcases List.mem_cons.mp hc with rfl | hc
  · have := Nat.eq_of_beq_eq_true h; omega
  rcases List.mem_cons.mp hc with rfl | hc
  · cases h
  rcases List.mem_cons.mp hc with rfl | hc
  · have h : (Nat.beq t 330 || Nat.beq t 331) = true := h
    rw [Bool.or_eq_true] at h
    rcases h with h | h <;> (have := Nat.eq_of_beq_eq_true h; omega)
  rcases List.mem_cons.mp hc with rfl | hc
  · rfl
  rcases List.mem_cons.mp hc with rfl | hc
  · have h9 : t = 300 ∨ t = 301 ∨ t = 302 ∨ t = 303 ∨ t = 304 := by omega
    rcases h9 with rfl | rfl | rfl | rfl | rfl <;> exact absurd h (by decide)
  rcases List.mem_cons.mp hc with rfl | hc
  · have h9 : t = 300 ∨ t = 301 ∨ t = 302 ∨ t = 303 ∨ t = 304 := by omega
    rcases h9 with rfl | rfl | rfl | rfl | rfl <;> exact absurd h (by decide)
  rcases List.mem_cons.mp hc with rfl | hc
  · have := etg_rgL9 h; omega
  rcases List.mem_cons.mp hc with rfl | hc
  · have := ltg_rg h; omega
  rcases List.mem_cons.mp hc with rfl | hc
  · cases h
  rcases List.mem_cons.mp hc with rfl | hc
  · cases h
  rcases List.mem_cons.mp hc with rfl | hc
  · have := btg_rg h; omega
  rcases List.mem_cons.mp hc with rfl | hc
  · have := otg_rg h; omega
  rcases List.mem_cons.mp hc with rfl | hc
  · have := wtg_rg h; omega
  rcases List.mem_cons.mp hc with rfl | hc
  · cases h
  rcases List.mem_cons.mp hc with rfl | hc
  · have := vtg_rg h; omega
  rcases List.mem_cons.mp hc with rfl | hc
  · have := ct9_rg h; omega
  rcases List.mem_cons.mp hc with rfl | hc
  · have := rtg_rgL9 h; omega
  · cases hc
theorem pHb0L9 : ∀ c ∈ CSL9, c = cb 125 128 ∨ ∀ t, (cb 125 128 : Cp).tg t = true → c.tg t = false := by
  intro c hc
  rcases List.mem_cons.mp hc with rfl | hc
  · exact Or.inr (fun t ht => by
    have r9 := btg_rg ht
    cases e : (cz 310 120 16 : Cp).tg t with
    | false => rfl
    | true =>
      have := tlt_0 e
      omega)
  rcases List.mem_cons.mp hc with rfl | hc
  · exact Or.inr (fun t ht => by
    have r9 := btg_rg ht
    cases e : (cz 311 201 4 : Cp).tg t with
    | false => rfl
    | true =>
      have := tlt_1 e
      omega)
  rcases List.mem_cons.mp hc with rfl | hc
  · exact Or.inr (fun t ht => by
    have r9 := btg_rg ht
    cases e : (cl 320 196 : Cp).tg t with
    | false => rfl
    | true =>
      have := tlt_2 e
      omega)
  rcases List.mem_cons.mp hc with rfl | hc
  · exact Or.inr (fun t ht => by
    have r9 := btg_rg ht
    cases e : (cf 110 148 211 210 206 : Cp).tg t with
    | false => rfl
    | true =>
      have := tlt_3 e
      omega)
  rcases List.mem_cons.mp hc with rfl | hc
  · exact Or.inr (fun t ht => by
    have r9 := btg_rg ht
    cases e : (cg9 110 112 183 144 : Cp).tg t with
    | false => rfl
    | true =>
      have := tlt_4 e
      omega)
  rcases List.mem_cons.mp hc with rfl | hc
  · exact Or.inr (fun t ht => by
    have r9 := btg_rg ht
    cases e : (ctr 125 110 20 26 : Cp).tg t with
    | false => rfl
    | true =>
      have := tlt_5 e
      omega)
  rcases List.mem_cons.mp hc with rfl | hc
  · exact Or.inr (fun t ht => by
    have r9 := btg_rg ht
    cases e : (cr QQ : Cp).tg t with
    | false => rfl
    | true =>
      have := tlt_6 e
      omega)
  rcases List.mem_cons.mp hc with rfl | hc
  · exact Or.inr (fun t ht => by
    have r9 := btg_rg ht
    cases e : (cu 24 25 26 : Cp).tg t with
    | false => rfl
    | true =>
      have := tlt_7 e
      omega)
  rcases List.mem_cons.mp hc with rfl | hc
  · exact Or.inr (fun t ht => by
    have r9 := btg_rg ht
    exact etg_fL9 (by omega))
  rcases List.mem_cons.mp hc with rfl | hc
  · exact Or.inr (fun t ht => by
    have r9 := btg_rg ht
    exact ltg_f (by omega))
  rcases List.mem_cons.mp hc with rfl | hc
  · exact Or.inr (fun t ht => rfl)
  rcases List.mem_cons.mp hc with rfl | hc
  · exact Or.inr (fun t ht => rfl)
  rcases List.mem_cons.mp hc with rfl | hc
  · exact Or.inl rfl
  rcases List.mem_cons.mp hc with rfl | hc
  · exact Or.inr (fun t ht => by
    have r9 := btg_rg ht
    exact otg_f (by omega))
  rcases List.mem_cons.mp hc with rfl | hc
  · exact Or.inr (fun t ht => by
    have r9 := btg_rg ht
    exact wtg_f (by omega))
  rcases List.mem_cons.mp hc with rfl | hc
  · exact Or.inr (fun t ht => rfl)
  rcases List.mem_cons.mp hc with rfl | hc
  · exact Or.inr (fun t ht => by
    have r9 := btg_rg ht
    exact vtg_f (by omega))
  rcases List.mem_cons.mp hc with rfl | hc
  · exact Or.inr (fun t ht => by
    have r9 := btg_rg ht
    exact ct9_f (by omega))
  rcases List.mem_cons.mp hc with rfl | hc
  · exact Or.inr (fun t ht => by
    have r9 := btg_rg ht
    exact rtg_fL9 (by omega))
  · cases hc
theorem pHbL9 : PH TJ GG CSL9 (cb 125 128) := ⟨TJ_wf, CS_okL9, mcbL9, pHb0L9⟩
theorem pHo0L9 : ∀ c ∈ CSL9, c = co 125 ∨ ∀ t, (co 125 : Cp).tg t = true → c.tg t = false := by
  intro c hc
  rcases List.mem_cons.mp hc with rfl | hc
  · exact Or.inr (fun t ht => by
    have r9 := otg_rg ht
    cases e : (cz 310 120 16 : Cp).tg t with
    | false => rfl
    | true =>
      have := tlt_0 e
      omega)
  rcases List.mem_cons.mp hc with rfl | hc
  · exact Or.inr (fun t ht => by
    have r9 := otg_rg ht
    cases e : (cz 311 201 4 : Cp).tg t with
    | false => rfl
    | true =>
      have := tlt_1 e
      omega)
  rcases List.mem_cons.mp hc with rfl | hc
  · exact Or.inr (fun t ht => by
    have r9 := otg_rg ht
    cases e : (cl 320 196 : Cp).tg t with
    | false => rfl
    | true =>
      have := tlt_2 e
      omega)
  rcases List.mem_cons.mp hc with rfl | hc
  · exact Or.inr (fun t ht => by
    have r9 := otg_rg ht
    cases e : (cf 110 148 211 210 206 : Cp).tg t with
    | false => rfl
    | true =>
      have := tlt_3 e
      omega)
  rcases List.mem_cons.mp hc with rfl | hc
  · exact Or.inr (fun t ht => by
    have r9 := otg_rg ht
    cases e : (cg9 110 112 183 144 : Cp).tg t with
    | false => rfl
    | true =>
      have := tlt_4 e
      omega)
  rcases List.mem_cons.mp hc with rfl | hc
  · exact Or.inr (fun t ht => by
    have r9 := otg_rg ht
    cases e : (ctr 125 110 20 26 : Cp).tg t with
    | false => rfl
    | true =>
      have := tlt_5 e
      omega)
  rcases List.mem_cons.mp hc with rfl | hc
  · exact Or.inr (fun t ht => by
    have r9 := otg_rg ht
    cases e : (cr QQ : Cp).tg t with
    | false => rfl
    | true =>
      have := tlt_6 e
      omega)
  rcases List.mem_cons.mp hc with rfl | hc
  · exact Or.inr (fun t ht => by
    have r9 := otg_rg ht
    cases e : (cu 24 25 26 : Cp).tg t with
    | false => rfl
    | true =>
      have := tlt_7 e
      omega)
  rcases List.mem_cons.mp hc with rfl | hc
  · exact Or.inr (fun t ht => by
    have r9 := otg_rg ht
    exact etg_fL9 (by omega))
  rcases List.mem_cons.mp hc with rfl | hc
  · exact Or.inr (fun t ht => by
    have r9 := otg_rg ht
    exact ltg_f (by omega))
  rcases List.mem_cons.mp hc with rfl | hc
  · exact Or.inr (fun t ht => rfl)
  rcases List.mem_cons.mp hc with rfl | hc
  · exact Or.inr (fun t ht => rfl)
  rcases List.mem_cons.mp hc with rfl | hc
  · exact Or.inr (fun t ht => by
    have r9 := otg_rg ht
    exact btg_f (by omega))
  rcases List.mem_cons.mp hc with rfl | hc
  · exact Or.inl rfl
  rcases List.mem_cons.mp hc with rfl | hc
  · exact Or.inr (fun t ht => by
    have r9 := otg_rg ht
    exact wtg_f (by omega))
  rcases List.mem_cons.mp hc with rfl | hc
  · exact Or.inr (fun t ht => rfl)
  rcases List.mem_cons.mp hc with rfl | hc
  · exact Or.inr (fun t ht => by
    have r9 := otg_rg ht
    exact vtg_f (by omega))
  rcases List.mem_cons.mp hc with rfl | hc
  · exact Or.inr (fun t ht => by
    have r9 := otg_rg ht
    exact ct9_f (by omega))
  rcases List.mem_cons.mp hc with rfl | hc
  · exact Or.inr (fun t ht => by
    have r9 := otg_rg ht
    exact rtg_fL9 (by omega))
  · cases hc
theorem pHoL9 : PH TJ GG CSL9 (co 125) := ⟨TJ_wf, CS_okL9, mcoL9, pHo0L9⟩
theorem pHw0 : ∀ c ∈ CSL9, c = cw9 11 13 ∨ ∀ t, (cw9 11 13 : Cp).tg t = true → c.tg t = false := by
  intro c hc
  rcases List.mem_cons.mp hc with rfl | hc
  · exact Or.inr (fun t ht => by
    have r9 := wtg_rg ht
    cases e : (cz 310 120 16 : Cp).tg t with
    | false => rfl
    | true =>
      have := tlt_0 e
      omega)
  rcases List.mem_cons.mp hc with rfl | hc
  · exact Or.inr (fun t ht => by
    have r9 := wtg_rg ht
    cases e : (cz 311 201 4 : Cp).tg t with
    | false => rfl
    | true =>
      have := tlt_1 e
      omega)
  rcases List.mem_cons.mp hc with rfl | hc
  · exact Or.inr (fun t ht => by
    have r9 := wtg_rg ht
    cases e : (cl 320 196 : Cp).tg t with
    | false => rfl
    | true =>
      have := tlt_2 e
      omega)
  rcases List.mem_cons.mp hc with rfl | hc
  · exact Or.inr (fun t ht => by
    have r9 := wtg_rg ht
    cases e : (cf 110 148 211 210 206 : Cp).tg t with
    | false => rfl
    | true =>
      have := tlt_3 e
      omega)
  rcases List.mem_cons.mp hc with rfl | hc
  · exact Or.inr (fun t ht => by
    have r9 := wtg_rg ht
    cases e : (cg9 110 112 183 144 : Cp).tg t with
    | false => rfl
    | true =>
      have := tlt_4 e
      omega)
  rcases List.mem_cons.mp hc with rfl | hc
  · exact Or.inr (fun t ht => by
    have r9 := wtg_rg ht
    cases e : (ctr 125 110 20 26 : Cp).tg t with
    | false => rfl
    | true =>
      have := tlt_5 e
      omega)
  rcases List.mem_cons.mp hc with rfl | hc
  · exact Or.inr (fun t ht => by
    have r9 := wtg_rg ht
    cases e : (cr QQ : Cp).tg t with
    | false => rfl
    | true =>
      have := tlt_6 e
      omega)
  rcases List.mem_cons.mp hc with rfl | hc
  · exact Or.inr (fun t ht => by
    have r9 := wtg_rg ht
    cases e : (cu 24 25 26 : Cp).tg t with
    | false => rfl
    | true =>
      have := tlt_7 e
      omega)
  rcases List.mem_cons.mp hc with rfl | hc
  · exact Or.inr (fun t ht => by
    have r9 := wtg_rg ht
    exact etg_fL9 (by omega))
  rcases List.mem_cons.mp hc with rfl | hc
  · exact Or.inr (fun t ht => by
    have r9 := wtg_rg ht
    exact ltg_f (by omega))
  rcases List.mem_cons.mp hc with rfl | hc
  · exact Or.inr (fun t ht => rfl)
  rcases List.mem_cons.mp hc with rfl | hc
  · exact Or.inr (fun t ht => rfl)
  rcases List.mem_cons.mp hc with rfl | hc
  · exact Or.inr (fun t ht => by
    have r9 := wtg_rg ht
    exact btg_f (by omega))
  rcases List.mem_cons.mp hc with rfl | hc
  · exact Or.inr (fun t ht => by
    have r9 := wtg_rg ht
    exact otg_f (by omega))
  rcases List.mem_cons.mp hc with rfl | hc
  · exact Or.inl rfl
  rcases List.mem_cons.mp hc with rfl | hc
  · exact Or.inr (fun t ht => rfl)
  rcases List.mem_cons.mp hc with rfl | hc
  · exact Or.inr (fun t ht => by
    have r9 := wtg_rg ht
    exact vtg_f (by omega))
  rcases List.mem_cons.mp hc with rfl | hc
  · exact Or.inr (fun t ht => by
    have r9 := wtg_rg ht
    exact ct9_f (by omega))
  rcases List.mem_cons.mp hc with rfl | hc
  · exact Or.inr (fun t ht => by
    have r9 := wtg_rg ht
    exact rtg_fL9 (by omega))
  · cases hc
theorem pHw : PH TJ GG CSL9 (cw9 11 13) := ⟨TJ_wf, CS_okL9, mcw, pHw0⟩
theorem pHB0 : ∀ c ∈ CSL9, c = cC9 15 129 110 26 16 ∨ ∀ t, (cC9 15 129 110 26 16 : Cp).tg t = true → c.tg t = false := by
  intro c hc
  rcases List.mem_cons.mp hc with rfl | hc
  · exact Or.inr (fun t ht => by
    have r9 := ct9_rg ht
    cases e : (cz 310 120 16 : Cp).tg t with
    | false => rfl
    | true =>
      have := tlt_0 e
      omega)
  rcases List.mem_cons.mp hc with rfl | hc
  · exact Or.inr (fun t ht => by
    have r9 := ct9_rg ht
    cases e : (cz 311 201 4 : Cp).tg t with
    | false => rfl
    | true =>
      have := tlt_1 e
      omega)
  rcases List.mem_cons.mp hc with rfl | hc
  · exact Or.inr (fun t ht => by
    have r9 := ct9_rg ht
    cases e : (cl 320 196 : Cp).tg t with
    | false => rfl
    | true =>
      have := tlt_2 e
      omega)
  rcases List.mem_cons.mp hc with rfl | hc
  · exact Or.inr (fun t ht => by
    have r9 := ct9_rg ht
    cases e : (cf 110 148 211 210 206 : Cp).tg t with
    | false => rfl
    | true =>
      have := tlt_3 e
      omega)
  rcases List.mem_cons.mp hc with rfl | hc
  · exact Or.inr (fun t ht => by
    have r9 := ct9_rg ht
    cases e : (cg9 110 112 183 144 : Cp).tg t with
    | false => rfl
    | true =>
      have := tlt_4 e
      omega)
  rcases List.mem_cons.mp hc with rfl | hc
  · exact Or.inr (fun t ht => by
    have r9 := ct9_rg ht
    cases e : (ctr 125 110 20 26 : Cp).tg t with
    | false => rfl
    | true =>
      have := tlt_5 e
      omega)
  rcases List.mem_cons.mp hc with rfl | hc
  · exact Or.inr (fun t ht => by
    have r9 := ct9_rg ht
    cases e : (cr QQ : Cp).tg t with
    | false => rfl
    | true =>
      have := tlt_6 e
      omega)
  rcases List.mem_cons.mp hc with rfl | hc
  · exact Or.inr (fun t ht => by
    have r9 := ct9_rg ht
    cases e : (cu 24 25 26 : Cp).tg t with
    | false => rfl
    | true =>
      have := tlt_7 e
      omega)
  rcases List.mem_cons.mp hc with rfl | hc
  · exact Or.inr (fun t ht => by
    have r9 := ct9_rg ht
    exact etg_fL9 (by omega))
  rcases List.mem_cons.mp hc with rfl | hc
  · exact Or.inr (fun t ht => by
    have r9 := ct9_rg ht
    exact ltg_f (by omega))
  rcases List.mem_cons.mp hc with rfl | hc
  · exact Or.inr (fun t ht => rfl)
  rcases List.mem_cons.mp hc with rfl | hc
  · exact Or.inr (fun t ht => rfl)
  rcases List.mem_cons.mp hc with rfl | hc
  · exact Or.inr (fun t ht => by
    have r9 := ct9_rg ht
    exact btg_f (by omega))
  rcases List.mem_cons.mp hc with rfl | hc
  · exact Or.inr (fun t ht => by
    have r9 := ct9_rg ht
    exact otg_f (by omega))
  rcases List.mem_cons.mp hc with rfl | hc
  · exact Or.inr (fun t ht => by
    have r9 := ct9_rg ht
    exact wtg_f (by omega))
  rcases List.mem_cons.mp hc with rfl | hc
  · exact Or.inr (fun t ht => rfl)
  rcases List.mem_cons.mp hc with rfl | hc
  · exact Or.inr (fun t ht => by
    have r9 := ct9_rg ht
    exact vtg_f (by omega))
  rcases List.mem_cons.mp hc with rfl | hc
  · exact Or.inl rfl
  rcases List.mem_cons.mp hc with rfl | hc
  · exact Or.inr (fun t ht => by
    have r9 := ct9_rg ht
    exact rtg_fL9 (by omega))
  · cases hc
theorem pHB : PH TJ GG CSL9 (cC9 15 129 110 26 16) := ⟨TJ_wf, CS_okL9, mcB, pHB0⟩
theorem pHR0L9 : ∀ c ∈ CSL9, c = cR 870 999 RWgL9 SL WGL9 ∨ ∀ t, (cR 870 999 RWgL9 SL WGL9 : Cp).tg t = true → c.tg t = false := by
  intro c hc
  rcases List.mem_cons.mp hc with rfl | hc
  · exact Or.inr (fun t ht => by
    have r9 := rtg_rgL9 ht
    cases e : (cz 310 120 16 : Cp).tg t with
    | false => rfl
    | true =>
      have := tlt_0 e
      omega)
  rcases List.mem_cons.mp hc with rfl | hc
  · exact Or.inr (fun t ht => by
    have r9 := rtg_rgL9 ht
    cases e : (cz 311 201 4 : Cp).tg t with
    | false => rfl
    | true =>
      have := tlt_1 e
      omega)
  rcases List.mem_cons.mp hc with rfl | hc
  · exact Or.inr (fun t ht => by
    have r9 := rtg_rgL9 ht
    cases e : (cl 320 196 : Cp).tg t with
    | false => rfl
    | true =>
      have := tlt_2 e
      omega)
  rcases List.mem_cons.mp hc with rfl | hc
  · exact Or.inr (fun t ht => by
    have r9 := rtg_rgL9 ht
    cases e : (cf 110 148 211 210 206 : Cp).tg t with
    | false => rfl
    | true =>
      have := tlt_3 e
      omega)
  rcases List.mem_cons.mp hc with rfl | hc
  · exact Or.inr (fun t ht => by
    have r9 := rtg_rgL9 ht
    cases e : (cg9 110 112 183 144 : Cp).tg t with
    | false => rfl
    | true =>
      have := tlt_4 e
      omega)
  rcases List.mem_cons.mp hc with rfl | hc
  · exact Or.inr (fun t ht => by
    have r9 := rtg_rgL9 ht
    cases e : (ctr 125 110 20 26 : Cp).tg t with
    | false => rfl
    | true =>
      have := tlt_5 e
      omega)
  rcases List.mem_cons.mp hc with rfl | hc
  · exact Or.inr (fun t ht => by
    have r9 := rtg_rgL9 ht
    cases e : (cr QQ : Cp).tg t with
    | false => rfl
    | true =>
      have := tlt_6 e
      omega)
  rcases List.mem_cons.mp hc with rfl | hc
  · exact Or.inr (fun t ht => by
    have r9 := rtg_rgL9 ht
    cases e : (cu 24 25 26 : Cp).tg t with
    | false => rfl
    | true =>
      have := tlt_7 e
      omega)
  rcases List.mem_cons.mp hc with rfl | hc
  · exact Or.inr (fun t ht => by
    have r9 := rtg_rgL9 ht
    exact etg_fL9 (by omega))
  rcases List.mem_cons.mp hc with rfl | hc
  · exact Or.inr (fun t ht => by
    have r9 := rtg_rgL9 ht
    exact ltg_f (by omega))
  rcases List.mem_cons.mp hc with rfl | hc
  · exact Or.inr (fun t ht => rfl)
  rcases List.mem_cons.mp hc with rfl | hc
  · exact Or.inr (fun t ht => rfl)
  rcases List.mem_cons.mp hc with rfl | hc
  · exact Or.inr (fun t ht => by
    have r9 := rtg_rgL9 ht
    exact btg_f (by omega))
  rcases List.mem_cons.mp hc with rfl | hc
  · exact Or.inr (fun t ht => by
    have r9 := rtg_rgL9 ht
    exact otg_f (by omega))
  rcases List.mem_cons.mp hc with rfl | hc
  · exact Or.inr (fun t ht => by
    have r9 := rtg_rgL9 ht
    exact wtg_f (by omega))
  rcases List.mem_cons.mp hc with rfl | hc
  · exact Or.inr (fun t ht => rfl)
  rcases List.mem_cons.mp hc with rfl | hc
  · exact Or.inr (fun t ht => by
    have r9 := rtg_rgL9 ht
    exact vtg_f (by omega))
  rcases List.mem_cons.mp hc with rfl | hc
  · exact Or.inr (fun t ht => by
    have r9 := rtg_rgL9 ht
    exact ct9_f (by omega))
  rcases List.mem_cons.mp hc with rfl | hc
  · exact Or.inl rfl
  · cases hc
theorem pHRL9 : PH TJ GG CSL9 (cR 870 999 RWgL9 SL WGL9) := ⟨TJ_wf, CS_okL9, mcRL9, pHR0L9⟩
theorem JJ_pbL9 : PBtL9 JJL9 := pb_ok pHB
theorem GX_JL9 : POk GXL9.g GXL9.P JJL9 := P_ok TJ_wf (cS_ok CS_okL9 CS_aptL9)
theorem hxg_0_okL9 {h : Nat × (Nat × Nat)} {f : Fm} {s : Sy} {ρ : List Int} {σ : zS} (ho : Ok JJL9 s ρ σ) : ∃ s' ρ', hxg_0 h f s = some s' ∧ Pre ρ ρ' ∧ Ok JJL9 s' ρ' σ := by
  have same : ∃ s' ρ', some s = some s' ∧ Pre ρ ρ' ∧ Ok JJL9 s' ρ' σ := ⟨s, ρ, rfl, Pre.rf, ho⟩
  unfold hxg_0
  cases Nat.beq h.1 1 with
  | true =>
    obtain ⟨s', e1, e2⟩ := tg_ok (f := f) (i := h.2.1) ho
    exact ⟨s', ρ, e1, Pre.rf, e2⟩
  | false =>
  cases Nat.beq h.1 10 with
  | true =>
    cases Nat.beq h.2.1 310 with
    | true =>
      obtain ⟨ρ', e1, e2⟩ := hz10_ok TJ_wf CS_okL9 (by decide) u310L9 ho
      exact ⟨_, ρ', rfl, e1, e2⟩
    | false =>
    cases Nat.beq h.2.1 311 with
    | true =>
      obtain ⟨ρ', e1, e2⟩ := hz10_ok TJ_wf CS_okL9 (by decide) u311L9 ho
      exact ⟨_, ρ', rfl, e1, e2⟩
    | false => exact same
  | false =>
  cases Nat.beq h.1 11 with
  | true =>
    cases Nat.beq h.2.1 310 with
    | true => exact ⟨_, ρ, rfl, Pre.rf, h11_ok TJ_wf CS_okL9 (by decide) (fun c q e H σ _ => by rw [u310L9 c q e]; exact del_z) ho⟩
    | false =>
    cases Nat.beq h.2.1 311 with
    | true => exact ⟨_, ρ, rfl, Pre.rf, h11_ok TJ_wf CS_okL9 (by decide) (fun c q e H σ _ => by rw [u311L9 c q e]; exact del_z) ho⟩
    | false =>
    cases Nat.beq h.2.1 320 with
    | true => exact ⟨_, ρ, rfl, Pre.rf, h11_ok TJ_wf CS_okL9 (by decide) (fun c q e H σ _ => by rw [u320L9 c q e]; exact del_l) ho⟩
    | false =>
    cases hT : Nat.ble 300 h.2.1 && Nat.ble h.2.1 304 with
    | true =>
      rw [Bool.and_eq_true] at hT
      have t1 := Nat.le_of_ble_eq_true hT.1
      have t2 := Nat.le_of_ble_eq_true hT.2
      exact ⟨_, ρ, rfl, Pre.rf, h11_ok TJ_wf CS_okL9 (by omega) (fun c q e H σ hs => by have ec := uTL9 c q _ t1 t2 e; subst ec; exact del_t t2 hs) ho⟩
    | false => exact same
  | false =>
  cases Nat.beq h.1 13 with
  | true => exact ⟨_, ρ, rfl, Pre.rf, hl13_ok TJ_wf CS_okL9 (by decide) u320L9 m320L9 ho⟩
  | false =>
  cases Nat.beq h.1 14 with
  | true => exact ⟨_, ρ, rfl, Pre.rf, hl14_ok TJ_wf CS_okL9 (by decide) u320L9 ho⟩
  | false =>
  cases Nat.beq h.1 15 with
  | true =>
    simp only [cond_true, cond_false]
    split
    · rename_i a ha
      obtain ⟨H, i1, i2⟩ := ho.inv
      rcases i1.lkp (t := 320) with ⟨q1, q2⟩ | ⟨a', z, q1, q2, q3⟩
      · rw [ha] at q1; cases q1
      · rw [ha] at q1
        cases Option.some.inj q1
        exact ⟨_, ρ, rfl, Pre.rf, hl15_ok q3 (fun j hj => i2.2.2 _ m320L9 z q2 j hj) ho ho.me⟩
    · exact same
  | false =>
  cases Nat.beq h.1 16 with
  | true =>
    simp only [cond_true, cond_false]
    cases Nat.beq h.2.1 310 with
    | true =>
      simp only [cond_true]
      split
      · rename_i a ha
        obtain ⟨H, i1, i2⟩ := ho.inv
        rcases i1.lkp (t := 310) with ⟨q1, q2⟩ | ⟨a', z, q1, q2, q3⟩
        · rw [ha] at q1; cases q1
        · rw [ha] at q1
          cases Option.some.inj q1
          have e := i2.2.2 _ m310L9 z q2
          obtain ⟨s', e1, e2⟩ := hz16_ok (by rw [← e]; exact q3) ho ho.me
          exact ⟨s', ρ, e1, Pre.rf, e2⟩
      · exact same
    | false =>
      simp only [cond_false]
      split
      · rename_i a ha
        obtain ⟨H, i1, i2⟩ := ho.inv
        rcases i1.lkp (t := 311) with ⟨q1, q2⟩ | ⟨a', z, q1, q2, q3⟩
        · rw [ha] at q1; cases q1
        · rw [ha] at q1
          cases Option.some.inj q1
          have e := i2.2.2 _ m311L9 z q2
          obtain ⟨s', e1, e2⟩ := hz16_ok (by rw [← e]; exact q3) ho ho.me
          exact ⟨s', ρ, e1, Pre.rf, e2⟩
      · exact same
  | false =>
  exact same
theorem hxg_1_okL9 {h : Nat × (Nat × Nat)} {f : Fm} {s : Sy} {ρ : List Int} {σ : zS} (ho : Ok JJL9 s ρ σ) : ∃ s' ρ', hxg_1 h f s = some s' ∧ Pre ρ ρ' ∧ Ok JJL9 s' ρ' σ := by
  have same : ∃ s' ρ', some s = some s' ∧ Pre ρ ρ' ∧ Ok JJL9 s' ρ' σ := ⟨s, ρ, rfl, Pre.rf, ho⟩
  unfold hxg_1
  cases Nat.beq h.1 17 with
  | true => exact ⟨_, ρ, rfl, Pre.rf, hl17_ok TJ_wf CS_okL9 (by decide) u320L9 m320L9 ho⟩
  | false =>
  cases Nat.beq h.1 18 with
  | true =>
    obtain ⟨H, i1, i2⟩ := ho.inv
    exact ⟨_, ρ, rfl, Pre.rf, hf18_ok (i2.2.2 _ mcfL9) ho ho.me⟩
  | false =>
  cases Nat.beq h.1 20 with
  | true => exact ⟨_, ρ, rfl, Pre.rf, hg20_ok TJ_wf CS_okL9 u331L9 ho⟩
  | false =>
  cases Nat.beq h.1 21 with
  | true => exact ⟨_, ρ, rfl, Pre.rf, hg21_ok mcgL9 ho⟩
  | false =>
  cases Nat.beq h.1 22 with
  | true =>
    simp only [cond_true, cond_false]
    split
    · rename_i a _ _
      cases hv : evk s a with
      | false => exact same
      | true =>
        obtain ⟨z, hz⟩ := evk_ok ho hv
        obtain ⟨ρ', e1, e2⟩ := ht22_ok TJ_wf CS_okL9 mctL9 (fun c q t ht e => uTL9 c q t (by omega) (by omega) e) hz ho
        exact ⟨_, ρ', rfl, e1, e2⟩
    · exact same
  | false =>
  cases Nat.beq h.1 23 with
  | true =>
    simp only [cond_true, cond_false]
    split
    · rename_i a _ _
      cases hv : evk s a with
      | false => exact same
      | true =>
        obtain ⟨z, hz⟩ := evk_ok ho hv
        obtain ⟨ρ', e1, e2⟩ := ht23_ok TJ_wf CS_okL9 mctL9 (fun c q t ht e => uTL9 c q t (by omega) (by omega) e) h40 hz ho
        exact ⟨_, ρ', rfl, e1, e2⟩
    · exact same
  | false =>
  cases Nat.beq h.1 25 with
  | true =>
    simp only [cond_true, cond_false]
    split
    · rename_i a _ b _ _
      cases hv : evk s a && evk s b with
      | false => exact same
      | true =>
        rw [Bool.and_eq_true] at hv
        obtain ⟨z, hz⟩ := evk_ok ho hv.1
        obtain ⟨y, hy⟩ := evk_ok ho hv.2
        exact ⟨_, ρ, rfl, Pre.rf, ht25_ok TJ_wf CS_okL9 mctL9 (fun c q t ht e => uTL9 c q t (by omega) (by omega) e) hz hy ho⟩
    · exact same
  | false =>
  exact same
theorem hxg_2_okL9 {h : Nat × (Nat × Nat)} {f : Fm} {s : Sy} {ρ : List Int} {σ : zS} (ho : Ok JJL9 s ρ σ) : ∃ s' ρ', hxg_2 h f s = some s' ∧ Pre ρ ρ' ∧ Ok JJL9 s' ρ' σ := by
  have same : ∃ s' ρ', some s = some s' ∧ Pre ρ ρ' ∧ Ok JJL9 s' ρ' σ := ⟨s, ρ, rfl, Pre.rf, ho⟩
  unfold hxg_2
  cases Nat.beq h.1 26 with
  | true =>
    simp only [cond_true, cond_false]
    split
    · rename_i a _ _
      cases hv : evk s a with
      | false => exact same
      | true =>
        obtain ⟨z, hz⟩ := evk_ok ho hv
        exact ⟨_, ρ, rfl, Pre.rf, ht26_ok TJ_wf CS_okL9 mctL9 (fun c q e => uTL9 c q 304 (by omega) (by omega) e) hz ho⟩
    · exact same
  | false =>
  cases Nat.beq h.1 30 with
  | true => exact ⟨_, ρ, rfl, Pre.rf, h30_ok ho ho.fa⟩
  | false =>
  cases Nat.beq h.1 31 with
  | true =>
    obtain ⟨s', e1, e2⟩ := hr31_ok qHL9 ho
    exact ⟨s', ρ, e1, Pre.rf, e2⟩
  | false =>
  cases Nat.beq h.1 32 with
  | true => exact ⟨_, ρ, rfl, Pre.rf, hr32_ok qHL9 ho⟩
  | false =>
  cases Nat.beq h.1 33 with
  | true => exact ⟨_, ρ, rfl, Pre.rf, hr33_ok qHL9 ho⟩
  | false =>
  cases Nat.beq h.1 34 with
  | true => exact ⟨_, ρ, rfl, Pre.rf, hr34_ok qHL9 ho⟩
  | false =>
  cases Nat.beq h.1 35 with
  | true => exact ⟨_, ρ, rfl, Pre.rf, hr35_ok qHL9 ho⟩
  | false =>
  exact same
theorem hxg_3_okL9 {h : Nat × (Nat × Nat)} {f : Fm} {s : Sy} {ρ : List Int} {σ : zS} (ho : Ok JJL9 s ρ σ) : ∃ s' ρ', hxg_3 h f s = some s' ∧ Pre ρ ρ' ∧ Ok JJL9 s' ρ' σ := by
  have same : ∃ s' ρ', some s = some s' ∧ Pre ρ ρ' ∧ Ok JJL9 s' ρ' σ := ⟨s, ρ, rfl, Pre.rf, ho⟩
  unfold hxg_3
  cases Nat.beq h.1 36 with
  | true =>
    simp only [cond_true, cond_false]
    split
    · rename_i r _
      cases hv : evk s r with
      | false => exact same
      | true =>
        obtain ⟨z, hz⟩ := evk_ok ho hv
        exact ⟨_, ρ, rfl, Pre.rf, hr36_ok qHL9 hz ho⟩
    · exact same
  | false =>
  cases Nat.beq h.1 37 with
  | true =>
    obtain ⟨ρ', e1, e2⟩ := hr37_ok qHL9 ho
    exact ⟨_, ρ', rfl, e1, e2⟩
  | false =>
  cases Nat.beq h.1 38 with
  | true => exact ⟨_, ρ, rfl, Pre.rf, hr38_ok qHL9 ho⟩
  | false =>
  cases Nat.beq h.1 39 with
  | true => exact ⟨_, ρ, rfl, Pre.rf, hr39_ok qHL9 ho⟩
  | false =>
  cases Nat.beq h.1 40 with
  | true =>
    simp only [cond_true, cond_false]
    split
    · rename_i p r _ _
      cases hv : evk s p && evk s r with
      | false => exact same
      | true =>
        rw [Bool.and_eq_true] at hv
        obtain ⟨z, hz⟩ := evk_ok ho hv.1
        obtain ⟨y, hy⟩ := evk_ok ho hv.2
        exact ⟨_, ρ, rfl, Pre.rf, hr40_ok qHL9 hz hy ho⟩
    · exact same
  | false =>
  cases Nat.beq h.1 41 with
  | true => exact ⟨_, ρ, rfl, Pre.rf, hr41_ok qHL9 ho⟩
  | false =>
  cases Nat.beq h.1 42 with
  | true => exact ⟨_, ρ, rfl, Pre.rf, hr42_ok qHL9 ho⟩
  | false =>
  exact same
theorem hxg_4_okL9 {h : Nat × (Nat × Nat)} {f : Fm} {s : Sy} {ρ : List Int} {σ : zS} (ho : Ok JJL9 s ρ σ) : ∃ s' ρ', hxg_4 h f s = some s' ∧ Pre ρ ρ' ∧ Ok JJL9 s' ρ' σ := by
  have same : ∃ s' ρ', some s = some s' ∧ Pre ρ ρ' ∧ Ok JJL9 s' ρ' σ := ⟨s, ρ, rfl, Pre.rf, ho⟩
  unfold hxg_4
  cases Nat.beq h.1 43 with
  | true => exact ⟨_, ρ, rfl, Pre.rf, hr43_ok qHL9 ho⟩
  | false =>
  cases Nat.beq h.1 44 with
  | true => exact ⟨_, ρ, rfl, Pre.rf, hr44_ok ho⟩
  | false =>
  cases Nat.beq h.1 45 with
  | true => exact ⟨_, ρ, rfl, Pre.rf, h45a_ok ho.fa ho ho.fa⟩
  | false =>
  cases Nat.beq h.1 46 with
  | true => exact ⟨_, ρ, rfl, Pre.rf, hr44_ok ho⟩
  | false =>
  cases Nat.beq h.1 50 with
  | true => exact ⟨_, ρ, rfl, Pre.rf, hu50_ok uHL9 ho⟩
  | false =>
  cases Nat.beq h.1 51 with
  | true => exact ⟨_, ρ, rfl, Pre.rf, hu51_ok uHL9 ho⟩
  | false =>
  cases Nat.beq h.1 52 with
  | true =>
    simp only [cond_true, cond_false]
    split
    · rename_i a _ _
      cases hv : evk s a with
      | false => exact same
      | true =>
        obtain ⟨z, hz⟩ := evk_ok ho hv
        exact ⟨_, ρ, rfl, Pre.rf, hu52_ok uHL9 hz ho⟩
    · exact same
  | false =>
  exact same
theorem hxg_5_okL9 {h : Nat × (Nat × Nat)} {f : Fm} {s : Sy} {ρ : List Int} {σ : zS} (ho : Ok JJL9 s ρ σ) : ∃ s' ρ', hxg_5L9 h f s = some s' ∧ Pre ρ ρ' ∧ Ok JJL9 s' ρ' σ := by
  have same : ∃ s' ρ', some s = some s' ∧ Pre ρ ρ' ∧ Ok JJL9 s' ρ' σ := ⟨s, ρ, rfl, Pre.rf, ho⟩
  unfold hxg_5L9
  cases Nat.beq h.1 54 with
  | true => exact ⟨_, ρ, rfl, Pre.rf, hu54_ok uHL9 ho⟩
  | false =>
  cases Nat.beq h.1 55 with
  | true =>
    obtain ⟨H, i1, i2⟩ := ho.inv
    obtain ⟨ρ', e1, e2⟩ := hu55_ok (bS12 i2.1) ho
    exact ⟨_, ρ', rfl, e1, e2⟩
  | false =>
  cases Nat.beq h.1 56 with
  | true => exact ⟨_, ρ, rfl, Pre.rf, hu56_ok uHL9 ho⟩
  | false =>
  cases Nat.beq h.1 57 with
  | true => exact ⟨_, ρ, rfl, Pre.rf, hu57_ok uHL9 ho⟩
  | false =>
  cases Nat.beq h.1 58 with
  | true => exact ⟨_, ρ, rfl, Pre.rf, hu58_ok ho⟩
  | false =>
  cases Nat.beq h.1 59 with
  | true =>
    obtain ⟨s', e1, e2⟩ := hu59_ok ho
    exact ⟨s', ρ, e1, Pre.rf, e2⟩
  | false =>
  cases Nat.beq h.1 60 with
  | true =>
    obtain ⟨H, i1, i2⟩ := ho.inv
    obtain ⟨a1, a2⟩ := hsAll_ok (i2.2.2 _ mceL9) ho i1
    exact ⟨_, ρ, rfl, Pre.rf, (hsAllL_ok (i2.2.2 _ mclL9) a1 (by rw [a2]; exact i1)).1⟩
  | false =>
  exact same
theorem hxg_6_okL9 {h : Nat × (Nat × Nat)} {f : Fm} {s : Sy} {ρ : List Int} {σ : zS} (ho : Ok JJL9 s ρ σ) : ∃ s' ρ', hxg_6L9 h f s = some s' ∧ Pre ρ ρ' ∧ Ok JJL9 s' ρ' σ := by
  have same : ∃ s' ρ', some s = some s' ∧ Pre ρ ρ' ∧ Ok JJL9 s' ρ' σ := ⟨s, ρ, rfl, Pre.rf, ho⟩
  unfold hxg_6L9
  cases Nat.beq h.1 61 with
  | true =>
    show ∃ s' ρ', (match f.st[h.2.2]? with
    | some a => bif evk s a then some (h61 h.2.1 a s) else some s
    | none => some s) = some s' ∧ Pre ρ ρ' ∧ Ok JJL9 s' ρ' σ
    split
    · rename_i a _
      cases hv : evk s a with
      | false => exact same
      | true =>
        obtain ⟨z, hz⟩ := evk_ok ho hv
        exact ⟨_, ρ, rfl, Pre.rf, h61_ok hz ho⟩
    · exact same
  | false =>
  cases Nat.beq h.1 62 with
  | true =>
    show ∃ s' ρ', (match f.st[h.2.2]? with
      | some a => bif evk s a then some (hopL h.2.1 a PE9L9 s) else some s
      | none => some s) = some s' ∧ Pre ρ ρ' ∧ Ok JJL9 s' ρ' σ
    split
    · rename_i a _
      cases hv : evk s a with
      | false => exact same
      | true =>
        obtain ⟨z, hz⟩ := evk_ok ho hv
        obtain ⟨H, i1, i2⟩ := ho.inv
        exact ⟨_, ρ, rfl, Pre.rf, hopL_ok hz (i2.2.2 _ mceL9) ho i1⟩
    · exact same
  | false =>
  cases Nat.beq h.1 63 with
  | true =>
    cases Nat.beq h.2.1 0 with
    | true =>
      obtain ⟨s', e1, e2⟩ := h63_ok mckL9 ho
      exact ⟨s', ρ, e1, Pre.rf, e2⟩
    | false =>
      obtain ⟨s', e1, e2⟩ := h63_ok mck2L9 ho
      exact ⟨s', ρ, e1, Pre.rf, e2⟩
  | false =>
  cases Nat.beq h.1 64 with
  | true =>
    obtain ⟨s', e1, e2⟩ := h64_ok mcnL9 ho
    exact ⟨s', ρ, e1, Pre.rf, e2⟩
  | false =>
  cases Nat.beq h.1 70 with
  | true =>
    show ∃ s' ρ', (match lget f.lv h.2.1 with
    | some a => bif evk s a then some (h70 a h.2.2 s) else some s
    | none => some s) = some s' ∧ Pre ρ ρ' ∧ Ok JJL9 s' ρ' σ
    split
    · rename_i a _
      cases hv : evk s a with
      | false => exact same
      | true =>
        obtain ⟨z, hz⟩ := evk_ok ho hv
        exact ⟨_, ρ, rfl, Pre.rf, h70_ok pHbL9 hz ho⟩
    · exact same
  | false =>
  cases Nat.beq h.1 71 with
  | true =>
    show ∃ s' ρ', (match lget f.lv h.2.1 with
    | some a => bif evk s a && leAV s (.c 0) a then some (h71 125 128 a s) else some s
    | none => some s) = some s' ∧ Pre ρ ρ' ∧ Ok JJL9 s' ρ' σ
    split
    · rename_i a _
      cases hv : evk s a && leAV s (.c 0) a with
      | false => exact same
      | true =>
        rw [Bool.and_eq_true] at hv
        obtain ⟨z, hz0⟩ := evk_ok ho hv.1
        have g := leAV_ok ho hv.2 (x := 0) rfl hz0
        have hz : ev ρ a = some ((z.toNat : Nat) : Int) := hz0.trans (congrArg some (by omega))
        exact ⟨_, ρ, rfl, Pre.rf, h71_ok pHbL9 hz ho⟩
    · exact same
  | false =>
  cases Nat.beq h.1 72 with
  | true =>
    show ∃ s' ρ', (match lget f.lv h.2.1 with
    | some a => bif evk s a && leAV s (.c 0) a then some (h72 125 128 a s) else some s
    | none => some s) = some s' ∧ Pre ρ ρ' ∧ Ok JJL9 s' ρ' σ
    split
    · rename_i a _
      cases hv : evk s a && leAV s (.c 0) a with
      | false => exact same
      | true =>
        rw [Bool.and_eq_true] at hv
        obtain ⟨z, hz0⟩ := evk_ok ho hv.1
        have g := leAV_ok ho hv.2 (x := 0) rfl hz0
        have hz : ev ρ a = some ((z.toNat : Nat) : Int) := hz0.trans (congrArg some (by omega))
        exact ⟨_, ρ, rfl, Pre.rf, h72_ok pHbL9 hz ho⟩
    · exact same
  | false =>
  exact same
theorem hxg_7_okL9 {h : Nat × (Nat × Nat)} {f : Fm} {s : Sy} {ρ : List Int} {σ : zS} (ho : Ok JJL9 s ρ σ) : ∃ s' ρ', hxg_7 h f s = some s' ∧ Pre ρ ρ' ∧ Ok JJL9 s' ρ' σ := by
  have same : ∃ s' ρ', some s = some s' ∧ Pre ρ ρ' ∧ Ok JJL9 s' ρ' σ := ⟨s, ρ, rfl, Pre.rf, ho⟩
  unfold hxg_7
  cases Nat.beq h.1 73 with
  | true =>
    show ∃ s' ρ', (match lget f.lv h.2.1 with
    | some a => bif evk s a && leAV s (.c 0) a then h73 125 128 a s else some s
    | none => some s) = some s' ∧ Pre ρ ρ' ∧ Ok JJL9 s' ρ' σ
    split
    · rename_i a _
      cases hv : evk s a && leAV s (.c 0) a with
      | false => exact same
      | true =>
        rw [Bool.and_eq_true] at hv
        obtain ⟨z, hz0⟩ := evk_ok ho hv.1
        have g := leAV_ok ho hv.2 (x := 0) rfl hz0
        have hz : ev ρ a = some ((z.toNat : Nat) : Int) := hz0.trans (congrArg some (by omega))
        obtain ⟨s', e1, e2⟩ := h73_ok mcbL9 hz ho
        exact ⟨s', ρ, e1, Pre.rf, e2⟩
    · exact same
  | false =>
  cases Nat.beq h.1 74 with
  | true =>
    obtain ⟨s', e1, e2⟩ := h74_ok mcbL9 ho
    exact ⟨s', ρ, e1, Pre.rf, e2⟩
  | false =>
  cases Nat.beq h.1 75 with
  | true =>
    exact ⟨_, ρ, rfl, Pre.rf, h75_ok pHbL9 ho⟩
  | false =>
  cases Nat.beq h.1 76 with
  | true =>
    exact ⟨_, ρ, rfl, Pre.rf, h76_ok pHbL9 ho⟩
  | false =>
  cases Nat.beq h.1 80 with
  | true =>
    show ∃ s' ρ', (match f.st with
    | a :: _ => bif evk s a then some (h80 110 26 a s) else some s
    | [] => some s) = some s' ∧ Pre ρ ρ' ∧ Ok JJL9 s' ρ' σ
    split
    · rename_i a _ _
      cases hv : evk s a with
      | false => exact same
      | true =>
        obtain ⟨z, hz⟩ := evk_ok ho hv
        obtain ⟨ρ', e1, e2⟩ := h80_ok TJ_wf CS_okL9 mctL9 (fun c q t ht e => uTL9 c q t (by omega) (by omega) e) hz ho
        exact ⟨_, ρ', rfl, e1, e2⟩
    · exact same
  | false =>
  cases Nat.beq h.1 81 with
  | true =>
    obtain ⟨s', e1, e2⟩ := h81_ok mctL9 ho
    exact ⟨s', ρ, e1, Pre.rf, e2⟩
  | false =>
  cases Nat.beq h.1 82 with
  | true =>
    obtain ⟨s', e1, e2⟩ := h82_ok mctL9 (fun hb hn => hP0 hb hn) ho
    exact ⟨s', ρ, e1, Pre.rf, e2⟩
  | false =>
  exact same
theorem hxg_8_okL9 {h : Nat × (Nat × Nat)} {f : Fm} {s : Sy} {ρ : List Int} {σ : zS} (ho : Ok JJL9 s ρ σ) : ∃ s' ρ', hxg_8 h f s = some s' ∧ Pre ρ ρ' ∧ Ok JJL9 s' ρ' σ := by
  have same : ∃ s' ρ', some s = some s' ∧ Pre ρ ρ' ∧ Ok JJL9 s' ρ' σ := ⟨s, ρ, rfl, Pre.rf, ho⟩
  unfold hxg_8
  cases Nat.beq h.1 83 with
  | true =>
    show ∃ s' ρ', (match f.st with
    | a :: _ => bif evk s a then some (h83 a s) else some s
    | [] => some s) = some s' ∧ Pre ρ ρ' ∧ Ok JJL9 s' ρ' σ
    split
    · rename_i a _ _
      cases hv : evk s a with
      | false => exact same
      | true =>
        obtain ⟨z, hz⟩ := evk_ok ho hv
        exact ⟨_, ρ, rfl, Pre.rf, h83_ok pHoL9 hz ho⟩
    · exact same
  | false =>
  cases Nat.beq h.1 84 with
  | true =>
    show ∃ s' ρ', (match f.st with
    | a :: _ => bif evk s a then some (h84 125 a s) else some s
    | [] => some s) = some s' ∧ Pre ρ ρ' ∧ Ok JJL9 s' ρ' σ
    split
    · rename_i a _ _
      cases hv : evk s a with
      | false => exact same
      | true =>
        obtain ⟨z, hz⟩ := evk_ok ho hv
        exact ⟨_, ρ, rfl, Pre.rf, h84_ok pHoL9 hz ho⟩
    · exact same
  | false =>
  cases Nat.beq h.1 85 with
  | true =>
    exact ⟨_, ρ, rfl, Pre.rf, h85_ok pHoL9 ho⟩
  | false =>
  cases Nat.beq h.1 86 with
  | true =>
    exact ⟨_, ρ, rfl, Pre.rf, h86_ok pHoL9 mctL9 ho⟩
  | false =>
  cases Nat.beq h.1 87 with
  | true =>
    show ∃ s' ρ', (match f.st with
    | a :: _ => bif evk s a then some (h87 125 a s) else some s
    | [] => some s) = some s' ∧ Pre ρ ρ' ∧ Ok JJL9 s' ρ' σ
    split
    · rename_i a _ _
      cases hv : evk s a with
      | false => exact same
      | true =>
        obtain ⟨z, hz⟩ := evk_ok ho hv
        exact ⟨_, ρ, rfl, Pre.rf, h87_ok pHoL9 hz ho⟩
    · exact same
  | false =>
  cases Nat.beq h.1 88 with
  | true =>
    show ∃ s' ρ', (match f.st with
    | a :: _ => bif evk s a then some (h88 125 a s) else some s
    | [] => some s) = some s' ∧ Pre ρ ρ' ∧ Ok JJL9 s' ρ' σ
    split
    · rename_i a _ _
      cases hv : evk s a with
      | false => exact same
      | true =>
        obtain ⟨z, hz⟩ := evk_ok ho hv
        exact ⟨_, ρ, rfl, Pre.rf, h88_ok pHoL9 hz ho⟩
    · exact same
  | false =>
  cases Nat.beq h.1 89 with
  | true =>
    obtain ⟨s', e1, e2⟩ := h89_ok mcoL9 ho
    exact ⟨s', ρ, e1, Pre.rf, e2⟩
  | false =>
  exact same
theorem hxg_9_okL9 {h : Nat × (Nat × Nat)} {f : Fm} {s : Sy} {ρ : List Int} {σ : zS} (ho : Ok JJL9 s ρ σ) : ∃ s' ρ', hxg_9L9 h f s = some s' ∧ Pre ρ ρ' ∧ Ok JJL9 s' ρ' σ := by
  have same : ∃ s' ρ', some s = some s' ∧ Pre ρ ρ' ∧ Ok JJL9 s' ρ' σ := ⟨s, ρ, rfl, Pre.rf, ho⟩
  unfold hxg_9L9
  cases Nat.beq h.1 90 with
  | true =>
    obtain ⟨s', e1, e2⟩ := h90_ok mcoL9 ho
    exact ⟨s', ρ, e1, Pre.rf, e2⟩
  | false =>
  cases Nat.beq h.1 92 with
  | true =>
    exact ⟨_, ρ, rfl, Pre.rf, h92_ok pHoL9 ho⟩
  | false =>
  cases Nat.beq h.1 95 with
  | true =>
    show ∃ s' ρ', (match lget f.lv h.2.1, lget f.lv h.2.2 with
    | some a, some b => bif evk s a && evk s b then some (h95 a b s) else some s
    | _, _ => some s) = some s' ∧ Pre ρ ρ' ∧ Ok JJL9 s' ρ' σ
    split
    · rename_i a b _ _
      cases hv : evk s a && evk s b with
      | false => exact same
      | true =>
        rw [Bool.and_eq_true] at hv
        obtain ⟨x, hx⟩ := evk_ok ho hv.1
        obtain ⟨y, hy⟩ := evk_ok ho hv.2
        obtain ⟨ρ', e1, e2⟩ := h95_ok pHw hx hy ho
        exact ⟨_, ρ', rfl, e1, e2⟩
    · exact same
  | false =>
  cases Nat.beq h.1 96 with
  | true =>
    exact ⟨_, ρ, rfl, Pre.rf, h96_ok pHw ho⟩
  | false =>
  cases Nat.beq h.1 97 with
  | true =>
    show ∃ s' ρ', (match f.st with
    | a :: _ => bif evk s a then some (h97 11 13 a s) else some s
    | [] => some s) = some s' ∧ Pre ρ ρ' ∧ Ok JJL9 s' ρ' σ
    split
    · rename_i a _ _
      cases hv : evk s a with
      | false => exact same
      | true =>
        obtain ⟨z, hz⟩ := evk_ok ho hv
        exact ⟨_, ρ, rfl, Pre.rf, h97_ok pHw hz ho⟩
    · exact same
  | false =>
  cases Nat.beq h.1 98 with
  | true =>
    obtain ⟨s', e1, e2⟩ := h98_ok mcw ho
    exact ⟨s', ρ, e1, Pre.rf, e2⟩
  | false =>
  cases Nat.beq h.1 99 with
  | true =>
    exact ⟨_, ρ, rfl, Pre.rf, h99_ok pHw ho⟩
  | false =>
  exact same
theorem hxg_10_ok {h : Nat × (Nat × Nat)} {f : Fm} {s : Sy} {ρ : List Int} {σ : zS} (ho : Ok JJL9 s ρ σ) : ∃ s' ρ', hxg_10 h f s = some s' ∧ Pre ρ ρ' ∧ Ok JJL9 s' ρ' σ := by
  have same : ∃ s' ρ', some s = some s' ∧ Pre ρ ρ' ∧ Ok JJL9 s' ρ' σ := ⟨s, ρ, rfl, Pre.rf, ho⟩
  unfold hxg_10
  cases Nat.beq h.1 100 with
  | true =>
    exact ⟨_, ρ, rfl, Pre.rf, h100_ok pHw ho⟩
  | false =>
  cases Nat.beq h.1 150 with
  | true =>
    obtain ⟨s', e1, e2⟩ := h150_ok mcvL9 ho
    exact ⟨s', ρ, e1, Pre.rf, e2⟩
  | false =>
  cases Nat.beq h.1 183 with
  | true =>
    show ∃ s' ρ', (match f.st with
    | a :: _ => bif evk s a then some (h183 129 110 26 a s) else some s
    | [] => some s) = some s' ∧ Pre ρ ρ' ∧ Ok JJL9 s' ρ' σ
    split
    · rename_i a _ _
      cases hv : evk s a with
      | false => exact same
      | true =>
        obtain ⟨z, hz⟩ := evk_ok ho hv
        exact ⟨_, ρ, rfl, Pre.rf, h183_ok mcB hz ho⟩
    · exact same
  | false =>
  cases Nat.beq h.1 184 with
  | true =>
    exact ⟨_, ρ, rfl, Pre.rf, h184_ok pHB ho⟩
  | false =>
  cases Nat.beq h.1 190 with
  | true =>
    exact ⟨_, ρ, rfl, Pre.rf, h190_ok pHB ho⟩
  | false =>
  cases Nat.beq h.1 191 with
  | true =>
    exact ⟨_, ρ, rfl, Pre.rf, h191_ok pHB ho⟩
  | false =>
  cases Nat.beq h.1 192 with
  | true =>
    show ∃ s' ρ', (match lget f.lv h.2.1 with
    | some a => bif evk s a then some (h192 16 a s) else some s
    | none => some s) = some s' ∧ Pre ρ ρ' ∧ Ok JJL9 s' ρ' σ
    split
    · rename_i a _
      cases hv : evk s a with
      | false => exact same
      | true =>
        obtain ⟨z, hz⟩ := evk_ok ho hv
        exact ⟨_, ρ, rfl, Pre.rf, h192_ok pHB ho⟩
    · exact same
  | false =>
  exact same
theorem hxg_11_ok {h : Nat × (Nat × Nat)} {f : Fm} {s : Sy} {ρ : List Int} {σ : zS} (ho : Ok JJL9 s ρ σ) : ∃ s' ρ', hxg_11 h f s = some s' ∧ Pre ρ ρ' ∧ Ok JJL9 s' ρ' σ := by
  have same : ∃ s' ρ', some s = some s' ∧ Pre ρ ρ' ∧ Ok JJL9 s' ρ' σ := ⟨s, ρ, rfl, Pre.rf, ho⟩
  unfold hxg_11
  cases Nat.beq h.1 193 with
  | true =>
    exact ⟨_, ρ, rfl, Pre.rf, h193_ok pHB ho⟩
  | false =>
  cases Nat.beq h.1 194 with
  | true =>
    exact ⟨_, ρ, rfl, Pre.rf, h194_ok pHB ho⟩
  | false =>
  cases Nat.beq h.1 195 with
  | true =>
    show ∃ s' ρ', (match lget f.lv h.2.1 with
    | some a => bif evk s a then some (h195 16 a s) else some s
    | none => some s) = some s' ∧ Pre ρ ρ' ∧ Ok JJL9 s' ρ' σ
    split
    · rename_i a _
      cases hv : evk s a with
      | false => exact same
      | true =>
        obtain ⟨z, hz⟩ := evk_ok ho hv
        exact ⟨_, ρ, rfl, Pre.rf, h195_ok pHB hz ho⟩
    · exact same
  | false =>
  cases Nat.beq h.1 196 with
  | true =>
    show ∃ s' ρ', (match f.st with
    | a :: _ => bif evk s a then some (h196 a s) else some s
    | [] => some s) = some s' ∧ Pre ρ ρ' ∧ Ok JJL9 s' ρ' σ
    split
    · rename_i a _ _
      cases hv : evk s a with
      | false => exact same
      | true =>
        obtain ⟨z, hz⟩ := evk_ok ho hv
        exact ⟨_, ρ, rfl, Pre.rf, h196_ok pHB hz ho⟩
    · exact same
  | false =>
  cases Nat.beq h.1 197 with
  | true =>
    show ∃ s' ρ', (match lget f.lv h.2.1 with
    | some a => bif evk s a then some (h197 a s) else some s
    | none => some s) = some s' ∧ Pre ρ ρ' ∧ Ok JJL9 s' ρ' σ
    split
    · rename_i a _
      cases hv : evk s a with
      | false => exact same
      | true =>
        obtain ⟨z, hz⟩ := evk_ok ho hv
        exact ⟨_, ρ, rfl, Pre.rf, h197_ok pHB hz ho⟩
    · exact same
  | false =>
  cases Nat.beq h.1 198 with
  | true =>
    show ∃ s' ρ', (match f.st with
    | a :: _ => bif evk s a then some (h198 129 110 26 a s) else some s
    | [] => some s) = some s' ∧ Pre ρ ρ' ∧ Ok JJL9 s' ρ' σ
    split
    · rename_i a _ _
      cases hv : evk s a with
      | false => exact same
      | true =>
        obtain ⟨z, hz⟩ := evk_ok ho hv
        exact ⟨_, ρ, rfl, Pre.rf, h198_ok pHB hz ho⟩
    · exact same
  | false =>
  cases Nat.beq h.1 199 with
  | true =>
    show ∃ s' ρ', (match f.st with
    | a :: _ => bif evk s a then some (h199 a s) else some s
    | [] => some s) = some s' ∧ Pre ρ ρ' ∧ Ok JJL9 s' ρ' σ
    split
    · rename_i a _ _
      cases hv : evk s a with
      | false => exact same
      | true =>
        obtain ⟨z, hz⟩ := evk_ok ho hv
        exact ⟨_, ρ, rfl, Pre.rf, h199_ok pHB hz ho⟩
    · exact same
  | false =>
  exact same
theorem hxg_12_ok {h : Nat × (Nat × Nat)} {f : Fm} {s : Sy} {ρ : List Int} {σ : zS} (ho : Ok JJL9 s ρ σ) : ∃ s' ρ', hxg_12 h f s = some s' ∧ Pre ρ ρ' ∧ Ok JJL9 s' ρ' σ := by
  have same : ∃ s' ρ', some s = some s' ∧ Pre ρ ρ' ∧ Ok JJL9 s' ρ' σ := ⟨s, ρ, rfl, Pre.rf, ho⟩
  unfold hxg_12
  cases Nat.beq h.1 200 with
  | true =>
    exact ⟨_, ρ, rfl, Pre.rf, h200_ok pHB ho⟩
  | false =>
  cases Nat.beq h.1 202 with
  | true =>
    exact ⟨_, ρ, rfl, Pre.rf, h202_ok pHB ho⟩
  | false =>
  cases Nat.beq h.1 203 with
  | true =>
    exact ⟨_, ρ, rfl, Pre.rf, h203_ok mcB ho⟩
  | false =>
  cases Nat.beq h.1 204 with
  | true =>
    exact ⟨_, ρ, rfl, Pre.rf, h204_ok pHB ho⟩
  | false =>
  cases Nat.beq h.1 206 with
  | true =>
    exact ⟨_, ρ, rfl, Pre.rf, h206_ok pHB pHRL9 rfl ho⟩
  | false =>
  cases Nat.beq h.1 207 with
  | true =>
    exact ⟨_, ρ, rfl, Pre.rf, h207_ok pHw pHRL9 rfl rfl ho⟩
  | false =>
  cases Nat.beq h.1 208 with
  | true =>
    show ∃ s' ρ', (match f.st with
    | b :: a :: _ => bif evk s a && evk s b then some (h95 a b s) else some s
    | _ => some s) = some s' ∧ Pre ρ ρ' ∧ Ok JJL9 s' ρ' σ
    split
    · rename_i b a _ _
      cases hv : evk s a && evk s b with
      | false => exact same
      | true =>
        rw [Bool.and_eq_true] at hv
        obtain ⟨x, hx⟩ := evk_ok ho hv.1
        obtain ⟨y, hy⟩ := evk_ok ho hv.2
        obtain ⟨ρ', e1, e2⟩ := h95_ok pHw hx hy ho
        exact ⟨_, ρ', rfl, e1, e2⟩
    · exact same
  | false =>
  exact same
theorem hxg_13_ok {h : Nat × (Nat × Nat)} {f : Fm} {s : Sy} {ρ : List Int} {σ : zS} (ho : Ok JJL9 s ρ σ) : ∃ s' ρ', hxg_13 h f s = some s' ∧ Pre ρ ρ' ∧ Ok JJL9 s' ρ' σ := by
  have same : ∃ s' ρ', some s = some s' ∧ Pre ρ ρ' ∧ Ok JJL9 s' ρ' σ := ⟨s, ρ, rfl, Pre.rf, ho⟩
  unfold hxg_13
  cases Nat.beq h.1 209 with
  | true =>
    show ∃ s' ρ', (match f.st with
    | b :: a :: _ => bif evk s a && evk s b then some (h209 a b s) else some s
    | _ => some s) = some s' ∧ Pre ρ ρ' ∧ Ok JJL9 s' ρ' σ
    split
    · rename_i b a _ _
      cases hv : evk s a && evk s b with
      | false => exact same
      | true =>
        rw [Bool.and_eq_true] at hv
        obtain ⟨x, hx⟩ := evk_ok ho hv.1
        obtain ⟨y, hy⟩ := evk_ok ho hv.2
        obtain ⟨ρ', e1, e2⟩ := h209_ok pHB hx hy ho
        exact ⟨_, ρ', rfl, e1, e2⟩
    · exact same
  | false =>
  cases Nat.beq h.1 210 with
  | true =>
    show ∃ s' ρ', (match (bif Nat.beq h.2.1 0 then f.st[0]? else lget f.lv (h.2.1 - 1)) with
    | some a => bif evk s a then some (h210 412 12 126 110 26 a s) else some s
    | none => some s) = some s' ∧ Pre ρ ρ' ∧ Ok JJL9 s' ρ' σ
    split
    · rename_i a _
      cases hv : evk s a with
      | false => exact same
      | true =>
        obtain ⟨z, hz⟩ := evk_ok ho hv
        exact ⟨_, ρ, rfl, Pre.rf, h210_ok (fun H σ hJ => (hJ.2.2 _ mceL9) (412, (12, (1, (126, (1, 39))))) (by decide)) mck2L9 mcvL9 hz ho⟩
    · exact same
  | false =>
  cases Nat.ble 300 h.1 with
  | true =>
    show ∃ s' ρ', (match RGTL9.get h.1 with
      | some R => ruA RWgL9 R (f.lv, (f.st, (.c 0, .c 0))) s
      | none => some s) = some s' ∧ Pre ρ ρ' ∧ Ok JJL9 s' ρ' σ
    split
    · rename_i R hR
      obtain ⟨q1, q2⟩ := RGT_okL9.at hR
      exact ruA_ok pHRL9 q1 q2 rfl ho
    · exact same
  | false =>
  exact same
theorem GX_HL9 : HOk GXL9 JJL9 := by
  intro h f s ρ σ ho
  show ∃ s' ρ', hxTL9 h f s = some s' ∧ Pre ρ ρ' ∧ Ok JJL9 s' ρ' σ
  unfold hxTL9
  cases Nat.ble h.1 16 with
  | true => rw [cond_true]; exact hxg_0_okL9 ho
  | false =>
  rw [cond_false]
  cases Nat.ble h.1 25 with
  | true => rw [cond_true]; exact hxg_1_okL9 ho
  | false =>
  rw [cond_false]
  cases Nat.ble h.1 35 with
  | true => rw [cond_true]; exact hxg_2_okL9 ho
  | false =>
  rw [cond_false]
  cases Nat.ble h.1 42 with
  | true => rw [cond_true]; exact hxg_3_okL9 ho
  | false =>
  rw [cond_false]
  cases Nat.ble h.1 52 with
  | true => rw [cond_true]; exact hxg_4_okL9 ho
  | false =>
  rw [cond_false]
  cases Nat.ble h.1 60 with
  | true => rw [cond_true]; exact hxg_5_okL9 ho
  | false =>
  rw [cond_false]
  cases Nat.ble h.1 72 with
  | true => rw [cond_true]; exact hxg_6_okL9 ho
  | false =>
  rw [cond_false]
  cases Nat.ble h.1 82 with
  | true => rw [cond_true]; exact hxg_7_okL9 ho
  | false =>
  rw [cond_false]
  cases Nat.ble h.1 89 with
  | true => rw [cond_true]; exact hxg_8_okL9 ho
  | false =>
  rw [cond_false]
  cases Nat.ble h.1 99 with
  | true => rw [cond_true]; exact hxg_9_okL9 ho
  | false =>
  rw [cond_false]
  cases Nat.ble h.1 192 with
  | true => rw [cond_true]; exact hxg_10_ok ho
  | false =>
  rw [cond_false]
  cases Nat.ble h.1 199 with
  | true => rw [cond_true]; exact hxg_11_ok ho
  | false =>
  rw [cond_false]
  cases Nat.ble h.1 208 with
  | true => rw [cond_true]; exact hxg_12_ok ho
  | false =>
  rw [cond_false]
  exact hxg_13_ok ho
theorem nil_SL9 {H : List (Nat × Int)} {σ : zS} (hb : ∀ e ∈ H, 100 ≤ e.1 ∧ e.1 < 330) : ∀ c ∈ CSL9, c.S H σ → c.S [] σ := by
  intro c hc hS
  rcases List.mem_cons.mp hc with rfl | hc
  · intro z hz; cases hz
  rcases List.mem_cons.mp hc with rfl | hc
  · intro z hz; cases hz
  rcases List.mem_cons.mp hc with rfl | hc
  · intro z hz; cases hz
  rcases List.mem_cons.mp hc with rfl | hc
  · exact hS
  rcases List.mem_cons.mp hc with rfl | hc
  · exact (CS_okL9 _ mcgL9).dep H [] σ σ (fun u hu => by
    have hu : (Nat.beq u 330 || Nat.beq u 331) = true := hu
    rw [Bool.or_eq_true] at hu
    rcases hu with hu | hu <;> rw [Nat.eq_of_beq_eq_true hu, low_nil hb (by decide)] <;> rfl) (fun _ _ => rfl) hS
  rcases List.mem_cons.mp hc with rfl | hc
  · obtain ⟨s1, s2, s3, s4, s5⟩ := (hS : tS 125 110 20 26 H σ)
    exact ⟨fun h0 => (by obtain ⟨r, a1, _⟩ := s1 h0; exact ⟨r, a1, fun x n a => (by cases a)⟩), s2, fun _ => s3 (low_nil hb (by decide)), s4, fun q t x a => (by cases a)⟩
  rcases List.mem_cons.mp hc with rfl | hc
  · obtain ⟨s0, sz, s8, s7, s5, s6⟩ := (hS : qS QQ H σ)
    exact ⟨s0, fun _ => sz (low_nil hb (by decide)), fun P q => (by cases q), fun f e h w B N P q => (by cases q), fun r q => (by cases q), fun k t h q => (by cases q)⟩
  rcases List.mem_cons.mp hc with rfl | hc
  · exact ⟨fun T q => (by cases q), fun T z q => (by cases q)⟩
  rcases List.mem_cons.mp hc with rfl | hc
  · exact (CS_okL9 _ mceL9).dep H [] σ σ (fun u hu => by
    have hu := etg_rgL9 hu
    rw [low_nil hb (Or.inr (by omega))]
    rfl) (fun _ _ => rfl) hS
  rcases List.mem_cons.mp hc with rfl | hc
  · exact (CS_okL9 _ mclL9).dep H [] σ σ (fun u hu => by
    have hu := ltg_rg hu
    rw [low_nil hb (Or.inr (by omega))]
    rfl) (fun _ _ => rfl) hS
  rcases List.mem_cons.mp hc with rfl | hc
  · exact hS
  rcases List.mem_cons.mp hc with rfl | hc
  · exact hS
  rcases List.mem_cons.mp hc with rfl | hc
  · exact (CS_okL9 _ mcbL9).dep H [] σ σ (fun u hu => by
    have hu := btg_rg hu
    rw [low_nil hb (Or.inr (by omega))]
    rfl) (fun _ _ => rfl) hS
  rcases List.mem_cons.mp hc with rfl | hc
  · exact (CS_okL9 _ mcoL9).dep H [] σ σ (fun u hu => by
    have hu := otg_rg hu
    rw [low_nil hb (Or.inr (by omega))]
    rfl) (fun _ _ => rfl) hS
  rcases List.mem_cons.mp hc with rfl | hc
  · exact (CS_okL9 _ mcw).dep H [] σ σ (fun u hu => by
    have hu := wtg_rg hu
    rw [low_nil hb (Or.inr (by omega))]
    rfl) (fun _ _ => rfl) hS
  rcases List.mem_cons.mp hc with rfl | hc
  · exact hS
  rcases List.mem_cons.mp hc with rfl | hc
  · exact (CS_okL9 _ mcvL9).dep H [] σ σ (fun u hu => by
    have hu := vtg_rg hu
    rw [low_nil hb (Or.inr (by omega))]
    rfl) (fun _ _ => rfl) hS
  rcases List.mem_cons.mp hc with rfl | hc
  · exact (CS_okL9 _ mcB).dep H [] σ σ (fun u hu => by
    have hu := ct9_rg hu
    rw [low_nil hb (Or.inr (by omega))]
    rfl) (fun _ _ => rfl) hS
  rcases List.mem_cons.mp hc with rfl | hc
  · exact (CS_okL9 _ mcRL9).dep H [] σ σ (fun u hu => by
    have hu := rtg_rgL9 hu
    rw [low_nil hb (Or.inr (by omega))]
    rfl) (fun _ _ => rfl) hS
  · cases hc
theorem ctFL9 {H : List (Nat × Int)} {σ σ' : zS} (hb : ∀ e ∈ H, 100 ≤ e.1 ∧ e.1 < 330) (hJ : JJL9 H σ) (hJ' : JJL9 [] σ') (hr : ∀ e ∈ H, ∀ k, trT e.1 k = true → σ'.1 k = σ.1 k ∧ σ'.2 k = σ.2 k) : (ctr 125 110 20 26).S H σ' := by
  by_cases h : ∀ t, 300 ≤ t → t ≤ 304 → lk H t = none
  · refine (CS_okL9 _ mctL9).dep [] H σ' σ' (fun u hu => ?_) (fun _ _ => rfl) (hJ'.2.2 _ mctL9)
    have hu : ((Nat.ble 300 u && Nat.ble u 304) || Nat.beq u 340) = true := hu
    rw [Bool.or_eq_true, Bool.and_eq_true] at hu
    rcases hu with ⟨u1, u2⟩ | u1
    · rw [h u (Nat.le_of_ble_eq_true u1) (Nat.le_of_ble_eq_true u2)]; rfl
    · rw [Nat.eq_of_beq_eq_true u1, low_nil hb (by decide)]; rfl
  · have hx : ∃ t z, 300 ≤ t ∧ t ≤ 304 ∧ lk H t = some z := Classical.byContradiction fun hn => h fun t h1 h2 => by
      cases hl : lk H t with
      | none => rfl
      | some z => exact absurd ⟨t, z, h1, h2, hl⟩ hn
    obtain ⟨t, z, h1, h2, hl⟩ := hx
    have rk9 := hr _ (lk_mem hl) 125 (by
      show trT t 125 = true
      unfold trT
      rw [Nat.ble_eq_true_of_le h1, Nat.ble_eq_true_of_le h2]
      simp)
    replace rk9 := rk9.1
    have rp : Pp σ' 125 = Pp σ 125 := by funext y; show (σ'.1 125 y).toInt = _; rw [rk9]
    obtain ⟨s1, s2, s3, s4, s5⟩ := (hJ.2.2 _ mctL9 : tS 125 110 20 26 H σ)
    obtain ⟨t1, t2, t3, t4, t5⟩ := (hJ'.2.2 _ mctL9 : tS 125 110 20 26 [] σ')
    exact ⟨by rw [rp]; exact s1, t2, fun _ => t3 rfl, t4, by rw [rp]; exact s5⟩
theorem crFL9 {H : List (Nat × Int)} {σ σ' : zS} (hb : ∀ e ∈ H, 100 ≤ e.1 ∧ e.1 < 330) (hJ : JJL9 H σ) (hJ' : JJL9 [] σ') (hr : ∀ e ∈ H, ∀ k, trT e.1 k = true → σ'.1 k = σ.1 k ∧ σ'.2 k = σ.2 k) : (cr QQ).S H σ' := by
  obtain ⟨s0, sz, s8, s7, s5, s6⟩ := (hJ.2.2 _ mcrL9 : qS QQ H σ)
  obtain ⟨t0, tz, _, _, _, _⟩ := (hJ'.2.2 _ mcrL9 : qS QQ [] σ')
  refine ⟨t0, fun _ => tz rfl, fun P q => ?_, fun f e h w B N P q1 q2 q3 q4 q5 q6 q7 => ?_, fun r q => ?_, fun k t h q1 q2 q3 => ?_⟩
  · rw [low_nil hb (by decide)] at q
    cases q
  · have m := lk_mem q1
    rw [Pp_eq (k := QQ.c) (hr _ m _ rfl).1, Pp_eq (k := QQ.s) (hr _ m _ rfl).1, Pp_eq (k := QQ.e) (hr _ m _ rfl).1, Pp_eq (k := QQ.w) (hr _ m _ rfl).1]
    exact s7 f e h w B N P q1 q2 q3 q4 q5 q6 q7
  · have m := lk_mem q
    rw [Pp_eq (k := QQ.c) (hr _ m _ rfl).1, Pp_eq (k := QQ.s) (hr _ m _ rfl).1, Pp_eq (k := QQ.e) (hr _ m _ rfl).1]
    exact s5 r q
  · have m := lk_mem q1
    rw [Pp_eq (k := QQ.c) (hr _ m _ rfl).1]
    exact s6 k t h q1 q2 q3
theorem cuFL9 {H : List (Nat × Int)} {σ σ' : zS} (hJ : JJL9 H σ) (hr : ∀ e ∈ H, ∀ k, trT e.1 k = true → σ'.1 k = σ.1 k ∧ σ'.2 k = σ.2 k) : (cu 24 25 26).S H σ' := by
  obtain ⟨s1, s2⟩ := (hJ.2.2 _ mcuL9 : uS 24 25 26 H σ)
  refine ⟨fun T q i hi => ?_, fun T z q hz i hi => ?_⟩
  · have m := lk_mem q
    have := s1 T q i hi
    unfold uN at this ⊢
    rw [(hr _ m 25 rfl).1, (hr _ m 24 rfl).1, (hr _ m 26 rfl).2]
    exact this
  · have m := lk_mem q
    have := s2 T z q hz i hi
    unfold uN at this ⊢
    rw [(hr _ m 25 rfl).1, (hr _ m 24 rfl).1, (hr _ m 26 rfl).2]
    exact this
theorem GX_FL9 : JFr GXL9 JJL9 := by
  refine ⟨fun H σ hb hJ => ⟨hJ.1, fun r R hr j hj _ => hJ.2.1 r R hr j hj (by rw [low_nil hb (Or.inl (wf_row TJ_wf hr).1)]; intro q; cases q), fun c q => nil_SL9 hb c q (hJ.2.2 c q)⟩, fun H σ σ' hb hJ hJ' hr => ⟨hJ'.1, fun r R hr j hj _ => hJ'.2.1 r R hr j hj (by intro q; cases q), ?_⟩, ?_⟩
  · have one : ∀ c ∈ CSL9, ∀ t k : Nat, (∀ u, c.tg u = Nat.beq u t) → (∀ u, c.rw u = Nat.beq u k) → (∀ u, c.lr u = false) → trT t k = true → c.S H σ' := by
      intro c q t k h1 h2 h4 h3
      cases hl : lk H t with
      | none => exact (CS_okL9 c q).dep [] H σ' σ' (fun u hu => by rw [h1] at hu; rw [Nat.eq_of_beq_eq_true hu, hl]; rfl) (fun _ _ => rfl) (hJ'.2.2 c q)
      | some x => exact (CS_okL9 c q).dep H H σ σ' (fun _ _ => rfl) (fun u hu => by rw [h2] at hu; rw [Nat.eq_of_beq_eq_true hu]; exact (hr _ (lk_mem hl) k h3).1) (hJ.2.2 c q) (fun u hu => by rw [h4] at hu; cases hu)
    intro c hc0
    have hc := hc0
    rcases List.mem_cons.mp hc with rfl | hc
    · exact one _ hc0 310 120 (fun _ => rfl) (fun _ => rfl) (fun _ => rfl) rfl
    rcases List.mem_cons.mp hc with rfl | hc
    · exact one _ hc0 311 201 (fun _ => rfl) (fun _ => rfl) (fun _ => rfl) rfl
    rcases List.mem_cons.mp hc with rfl | hc
    · exact one _ hc0 320 196 (fun _ => rfl) (fun _ => rfl) (fun _ => rfl) rfl
    rcases List.mem_cons.mp hc with rfl | hc
    · exact hJ'.2.2 _ mcfL9
    rcases List.mem_cons.mp hc with rfl | hc
    · exact (CS_okL9 _ mcgL9).dep [] H σ' σ' (fun u hu => by
        have hu : (Nat.beq u 330 || Nat.beq u 331) = true := hu
        rw [Bool.or_eq_true] at hu
        rcases hu with hu | hu <;> rw [Nat.eq_of_beq_eq_true hu, low_nil hb (by decide)] <;> rfl) (fun _ _ => rfl) (hJ'.2.2 _ mcgL9)
    rcases List.mem_cons.mp hc with rfl | hc
    · exact ctFL9 hb hJ hJ' hr
    rcases List.mem_cons.mp hc with rfl | hc
    · exact crFL9 hb hJ hJ' hr
    rcases List.mem_cons.mp hc with rfl | hc
    · exact cuFL9 hJ hr
    rcases List.mem_cons.mp hc with rfl | hc
    · exact (CS_okL9 _ mceL9).dep [] H σ' σ' (fun u hu => by
        have hu := etg_rgL9 hu
        rw [low_nil hb (Or.inr (by omega))]
        rfl) (fun _ _ => rfl) (hJ'.2.2 _ mceL9)
    rcases List.mem_cons.mp hc with rfl | hc
    · exact (CS_okL9 _ mclL9).dep [] H σ' σ' (fun u hu => by
        have hu := ltg_rg hu
        rw [low_nil hb (Or.inr (by omega))]
        rfl) (fun _ _ => rfl) (hJ'.2.2 _ mclL9)
    rcases List.mem_cons.mp hc with rfl | hc
    · exact hJ'.2.2 _ mckL9
    rcases List.mem_cons.mp hc with rfl | hc
    · exact hJ'.2.2 _ mcnL9
    rcases List.mem_cons.mp hc with rfl | hc
    · exact (CS_okL9 _ mcbL9).dep [] H σ' σ' (fun u hu => by
        have hu := btg_rg hu
        rw [low_nil hb (Or.inr (by omega))]
        rfl) (fun _ _ => rfl) (hJ'.2.2 _ mcbL9)
    rcases List.mem_cons.mp hc with rfl | hc
    · exact (CS_okL9 _ mcoL9).dep [] H σ' σ' (fun u hu => by
        have hu := otg_rg hu
        rw [low_nil hb (Or.inr (by omega))]
        rfl) (fun _ _ => rfl) (hJ'.2.2 _ mcoL9)
    rcases List.mem_cons.mp hc with rfl | hc
    · exact (CS_okL9 _ mcw).dep [] H σ' σ' (fun u hu => by
        have hu := wtg_rg hu
        rw [low_nil hb (Or.inr (by omega))]
        rfl) (fun _ _ => rfl) (hJ'.2.2 _ mcw)
    rcases List.mem_cons.mp hc with rfl | hc
    · exact hJ'.2.2 _ mck2L9
    rcases List.mem_cons.mp hc with rfl | hc
    · exact (CS_okL9 _ mcvL9).dep [] H σ' σ' (fun u hu => by
        have hu := vtg_rg hu
        rw [low_nil hb (Or.inr (by omega))]
        rfl) (fun _ _ => rfl) (hJ'.2.2 _ mcvL9)
    rcases List.mem_cons.mp hc with rfl | hc
    · exact (CS_okL9 _ mcB).dep [] H σ' σ' (fun u hu => by
        have hu := ct9_rg hu
        rw [low_nil hb (Or.inr (by omega))]
        rfl) (fun _ _ => rfl) (hJ'.2.2 _ mcB)
    rcases List.mem_cons.mp hc with rfl | hc
    · exact (CS_okL9 _ mcRL9).dep [] H σ' σ' (fun u hu => by
        have hu := rtg_rgL9 hu
        rw [low_nil hb (Or.inr (by omega))]
        rfl) (fun _ _ => rfl) (hJ'.2.2 _ mcRL9)
    · cases hc
  · intro t k h
    have h : trT t k = true := h
    unfold trT at h
    simp only [Bool.or_eq_true, Bool.and_eq_true] at h
    rcases h with ⟨_, h⟩ | ⟨_, h⟩ | ⟨_, h⟩ | ⟨_, h⟩ | ⟨_, h⟩ | ⟨_, h⟩
    · rw [Nat.eq_of_beq_eq_true h]; decide +kernel
    · rw [Nat.eq_of_beq_eq_true h]; decide +kernel
    · rw [Nat.eq_of_beq_eq_true h]; decide +kernel
    · rw [Nat.eq_of_beq_eq_true h]; decide +kernel
    · rcases h with h | h | h | h <;> rw [Nat.eq_of_beq_eq_true h] <;> decide +kernel
    · rcases h with h | h | h <;> rw [Nat.eq_of_beq_eq_true h] <;> decide +kernel
theorem GX_GL9 : GxOk Yf GXL9 := G_ok _ _ _ _
end
